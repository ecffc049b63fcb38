/-! Bits of longs -/
theorem ts_bit {w : Int64} {s : UInt64} {j : Nat} (hj : j < 64) (hs : s.toNat = j) : ((w.toUInt64 >>> s).toInt64 &&& 1) = 0 ↔ w.toBitVec.getLsbD j = false := by
  have e : (w.toUInt64 >>> s).toInt64.toBitVec = w.toBitVec >>> j := by
    apply BitVec.eq_of_toNat_eq
    show (w.toUInt64 >>> s).toNat = _
    rw [UInt64.toNat_shiftRight, hs, Nat.mod_eq_of_lt hj, BitVec.toNat_ushiftRight]
    rfl
  rw [← Int64.toBitVec_inj, Int64.toBitVec_and, e]
  show w.toBitVec >>> j &&& 1#64 = 0#64 ↔ _
  constructor
  · intro h
    have t := congrArg (fun x => x.getLsbD 0) h
    simpa using t
  · intro h
    apply BitVec.eq_of_getLsbD_eq
    intro i hi
    cases i with
    | zero => simp [h]
    | succ i => simp
theorem wb_cu : ∀ k, k < 64 → ((nI k).toInt64.toUInt64 &&& Int64.toUInt64 63).toNat = k := by decide +kernel
theorem jm_1 : ∀ n, n < 64 → ((1 : Int64) <<< ((nI n).toInt64 &&& 63)).toBitVec = BitVec.twoPow 64 n := by decide +kernel
def jushr (x : Int64) (c : Int) : Int64 := (x.toUInt64 >>> ((Int32.ofInt c).toInt64.toUInt64 &&& Int64.toUInt64 63)).toInt64
def jshl (x : Int64) (c : Int) : Int64 := x <<< ((Int32.ofInt c).toInt64 &&& 63)
/-- bit i of a long -/
def bJ (x : Int64) (i : Nat) : Prop := x.toBitVec.getLsbD i = true
theorem jb_0 {x : Int64} {c : Int} (h : 0 ≤ c ∧ c < 64) : (jushr x c &&& 1) = 0 ↔ ¬ bJ x c.toNat := by
  have e : ((Int32.ofInt c).toInt64.toUInt64 &&& Int64.toUInt64 63).toNat = c.toNat := by rw [on_of h.1]; exact wb_cu c.toNat (by omega)
  have := ts_bit (w := x) (j := c.toNat) (by omega) e
  unfold jushr bJ
  rw [this]
  cases x.toBitVec.getLsbD c.toNat <;> decide
theorem jb_x {x : Int64} {c : Int} {i : Nat} (h : 0 ≤ c ∧ c < 64) (hi : i < 64) : bJ (x ^^^ jshl 1 c) i ↔ (if i = c.toNat then ¬ bJ x i else bJ x i) := by
  have e : (jshl 1 c).toBitVec = BitVec.twoPow 64 c.toNat := by unfold jshl; rw [on_of h.1]; exact jm_1 c.toNat (by omega)
  unfold bJ
  rw [Int64.toBitVec_xor, BitVec.getLsbD_xor, e, BitVec.getLsbD_twoPow]
  have h1 : decide (c.toNat < 64) = true := decide_eq_true (by omega)
  rw [h1]
  by_cases q : i = c.toNat
  · rw [if_pos q, decide_eq_true q.symm]; cases x.toBitVec.getLsbD i <;> decide
  · rw [if_neg q, decide_eq_false (fun z => q z.symm)]; cases x.toBitVec.getLsbD i <;> decide
theorem jb_n {x : Int64} {i : Nat} : bJ (x ^^^ 0) i ↔ bJ x i := by
  unfold bJ
  rw [Int64.toBitVec_xor, BitVec.getLsbD_xor]
  show ((x.toBitVec.getLsbD i ^^ (0#64).getLsbD i) = true) ↔ _
  rw [BitVec.getLsbD_zero]
  cases x.toBitVec.getLsbD i <;> decide
section ZJ
variable {k : kx_T} {mn pc : Nat} {dT : Nat → ClassId} {lv : List (Nat × Value)} {st : List Value} {ws : va_W} {ce sl a b : Nat} {z : Int}
theorem z_jushr (X : AX k mn dT) {x : Int64} {c : Int} (h : cdA mn pc = some (.lushr, 1, a, b, z)) (g : WS k (pc + 1) lv (.long (jushr x c) :: st) ws ce sl) : WS k pc lv (.int (Int32.ofInt c) :: .long x :: st) ws ce sl := w_lushr X.1 (ax_d X h) g
theorem z_jshl (X : AX k mn dT) {x : Int64} {c : Int} (h : cdA mn pc = some (.lshl, 1, a, b, z)) (g : WS k (pc + 1) lv (.long (jshl x c) :: st) ws ce sl) : WS k pc lv (.int (Int32.ofInt c) :: .long x :: st) ws ce sl := w_lshl X.1 (ax_d X h) g
theorem z_jcmp (X : AX k mn dT) {x y : Int64} (h : cdA mn pc = some (.lcmp, 1, a, b, z)) (g1 : x = y → WS k (pc + 1) lv (.int (Int32.ofInt 0) :: st) ws ce sl) (g2 : x ≠ y → ∀ c : Int, rng c → c ≠ 0 → WS k (pc + 1) lv (.int (Int32.ofInt c) :: st) ws ce sl) : WS k pc lv (.long y :: .long x :: st) ws ce sl := by
  refine w_lcmp X.1 (ax_d X h) ?_
  by_cases q : x = y
  · have e : lg_cmp x y = Int32.ofInt 0 := by rw [(lg_cmp_eq x y).mpr q]; rfl
    rw [e]; exact g1 q
  · have h9 := g2 q (lg_cmp x y).toInt (rng_to _) (fun w => q ((lg_cmp_eq x y).mp (Int32.toInt_inj.mp (show _ = (0 : Int32).toInt from w))))
    rwa [ofi_to] at h9
theorem z_and63 (X : AX k mn dT) {x : Int} (h : cdA mn pc = some (.iand, 1, a, b, z)) (hx : 0 ≤ x ∧ x ≤ 127) (g : WS k (pc + 1) lv (.int (Int32.ofInt (x % 64)) :: st) ws ce sl) : WS k pc lv (.int (Int32.ofInt 63) :: .int (Int32.ofInt x) :: st) ws ce sl := by
  refine w_iand X.1 (ax_d X h) ?_
  rw [and_ex (m := 63) (f := fun x => x % 64) (by decide) (by decide +kernel) hx]
  exact g
end ZJ
/-! Rows of longs, bit by bit: the cells that a stream comes to -/
section ZL
variable {k : kx_T} {mn pc : Nat} {A : Nat → Nat} {dT : Nat → ClassId} {s : PS} {lv : List (Nat × Value)} {st : List Value} {ce sl : Nat}
theorem z_lalE (X : AX k mn dT) (c : Nat) {n q : Nat} {i : Int} (h : cdA mn pc = some (.laload, 1, 0, 0, 0)) (hc : c < 518) (hb : bsS c = .inl (1, n, .inr (0, 0, q))) (h0 : 0 ≤ i) (hi : i < (n : Int)) (hn : n < 2147483648) (g : WS k (pc + 1) lv (.long (gD s q i.toNat) :: st) (Wd A dT s) ce sl) : WS k pc lv (.int (Int32.ofInt i) :: .ref (A c) :: st) (Wd A dT s) ce sl := by
  rw [on_of h0]
  exact s_lald X c h hc hb (by omega) hn g
end ZL
theorem jb_o {x : Int64} {c : Int} {i : Nat} (h : 0 ≤ c ∧ c < 64) (hi : i < 64) : bJ (x ||| jshl 1 c) i ↔ bJ x i ∨ i = c.toNat := by
  have e : (jshl 1 c).toBitVec = BitVec.twoPow 64 c.toNat := by unfold jshl; rw [on_of h.1]; exact jm_1 c.toNat (by omega)
  unfold bJ
  rw [Int64.toBitVec_or, BitVec.getLsbD_or, e, BitVec.getLsbD_twoPow]
  have h1 : decide (c.toNat < 64) = true := decide_eq_true (by omega)
  rw [h1]
  by_cases q : i = c.toNat
  · rw [decide_eq_true q.symm]; simp [q]
  · rw [decide_eq_false (fun z => q z.symm)]; simp [q]
theorem jb_z {i : Nat} : ¬ bJ (0 : Int64) i := by
  unfold bJ
  show ¬ ((0#64).getLsbD i = true)
  rw [BitVec.getLsbD_zero]
  decide
theorem gD_u {s : PS} {a j : Nat} {x : Int64} : gD (uD s a j x) a j = x := by
  show (if a = a then vp_updL (s.2.2.2.1 a) j x else s.2.2.2.1 a) j = x
  rw [if_pos rfl]
  show (if j = j then x else s.2.2.2.1 a j) = x
  rw [if_pos rfl]
theorem gD_n {s : PS} {a j i : Nat} {x : Int64} (h : i ≠ j) : gD (uD s a j x) a i = gD s a i := by
  show (if a = a then vp_updL (s.2.2.2.1 a) j x else s.2.2.2.1 a) i = _
  rw [if_pos rfl]
  show (if i = j then x else s.2.2.2.1 a i) = _
  rw [if_neg h]
/-- the masks are as they were -/
def SDM (s t : PS) : Prop := ∀ j : Nat, gD t 3 j = gD s 3 j
theorem sdm_rf {s : PS} : SDM s s := fun _ => rfl
theorem sdm_ts {s t u : PS} (h : SDM s t) (g : SDM t u) : SDM s u := fun j => (g j).trans (h j)
theorem sdm_D {s t : PS} {b j : Nat} {x : Int64} (hb : 3 ≠ b) (h : SDM s t) : SDM s (uD t b j x) := fun i => by
  show (if 3 = b then vp_updL (t.2.2.2.1 b) j x else t.2.2.2.1 3) i = _
  rw [if_neg hb]
  exact h i
theorem sdm_fm {L M : List Nat} {s t : PS} (F : Fm L M s t) (h : 3 + 1000 ∉ M) : SDM s t := fun _ => fm_dd F h
/-- the masks of stream x are empty -/
def WIM (x : Int) (s t : PS) : Prop := gD t 3 (x * 2).toNat = 0 ∧ gD t 3 (x * 2 + 1).toNat = 0 ∧ ∀ j : Nat, j ≠ (x * 2).toNat → j ≠ (x * 2 + 1).toNat → gD t 3 j = gD s 3 j
theorem wim_of {x : Int} {s t u : PS} {i j : Int} (h1 : t = uD s 3 i.toNat 0) (h2 : u = uD t 3 j.toNat 0) (hi : i = x * 2) (hj : j = x * 2 + 1) (x0 : 0 ≤ x) : WIM x s u := by
  subst h1 h2 hi hj
  refine ⟨?_, gD_u, fun k k1 k2 => ?_⟩
  · rw [gD_n (by omega), gD_u]
  · rw [gD_n k2, gD_n k1]
theorem wim_sam {x : Int} {s t u : PS} (h : WIM x s t) (g : SDM t u) : WIM x s u := ⟨(g _).trans h.1, (g _).trans h.2.1, fun j h1 h2 => (g j).trans (h.2.2 j h1 h2)⟩
/-- the masks of stream x hold the first c cells of f -/
def MKQ (f : Nat → Int) (x c : Int) (s t : PS) : Prop := (∀ d : Nat, d < 128 → (bJ (gD t 3 ((x * 2).toNat + d / 64)) (d % 64) ↔ ∃ k : Nat, (k : Int) < c ∧ f k = (d : Int))) ∧ ∀ j : Nat, j ≠ (x * 2).toNat → j ≠ (x * 2 + 1).toNat → gD t 3 j = gD s 3 j
theorem mkq_0 {f : Nat → Int} {x : Int} {s t u : PS} (h0 : SDM s t) (h : WIM x t u) (x0 : 0 ≤ x) : MKQ f x 0 s u := by
  refine ⟨fun d hd => ⟨fun q => ?_, fun ⟨k, hk, _⟩ => by omega⟩, fun j h1 h2 => (h.2.2 j h1 h2).trans (h0 j)⟩
  exfalso
  revert q
  by_cases e : d < 64
  · rw [show (x * 2).toNat + d / 64 = (x * 2).toNat by omega, h.1]; exact jb_z
  · rw [show (x * 2).toNat + d / 64 = (x * 2 + 1).toNat by omega, h.2.1]; exact jb_z
theorem mkq_sam {f : Nat → Int} {x c : Int} {s t u : PS} (h : MKQ f x c s t) (g : SDM t u) : MKQ f x c s u := ⟨fun d hd => by rw [g]; exact h.1 d hd, fun j h1 h2 => (g j).trans (h.2 j h1 h2)⟩
theorem mkq_up {f : Nat → Int} {x c e i : Int} {s t u w : PS} (h : MKQ f x c s t) (h1 : SDM t u) (hw : w = uD u 3 i.toNat (gD u 3 i.toNat ||| jshl 1 (e % 64))) (hi : i = x * 2 + e / 64) (he : e = f c.toNat) (e0 : 0 ≤ e ∧ e ≤ 127) (x0 : 0 ≤ x) (c0 : 0 ≤ c) : MKQ f x (c + 1) s w := by
  subst hw
  have h2 := mkq_sam h h1
  refine ⟨fun d hd => ?_, fun j j1 j2 => ?_⟩
  · have hk : (∃ k : Nat, (k : Int) < c + 1 ∧ f k = (d : Int)) ↔ (∃ k : Nat, (k : Int) < c ∧ f k = (d : Int)) ∨ e = (d : Int) := by
      constructor
      · rintro ⟨k, k1, k2⟩
        by_cases z : k = c.toNat
        · exact Or.inr (by rw [he, ← z]; exact k2)
        · exact Or.inl ⟨k, by omega, k2⟩
      · rintro (⟨k, k1, k2⟩ | z)
        · exact ⟨k, by omega, k2⟩
        · exact ⟨c.toNat, by omega, by rw [← he]; exact z⟩
    rw [hk, ← h2.1 d hd]
    by_cases z : (x * 2).toNat + d / 64 = i.toNat
    · rw [z, gD_u, jb_o (by omega) (by omega)]
      constructor
      · rintro (q | q)
        · exact Or.inl q
        · exact Or.inr (by omega)
      · rintro (q | q)
        · exact Or.inl q
        · exact Or.inr (by omega)
    · rw [gD_n z]
      exact ⟨Or.inl, fun q => q.elim id (fun q => absurd (by omega) z)⟩
  · rw [gD_n (by omega)]
    exact h2.2 j j1 j2
/-- what the class's masks hold behind a stream's text -/
def MNC (B : Nat → Int) (w : Int) (s t : PS) : Prop := (iI t 9 = iI s 9 ∧ SDM s t) ∨ ∃ a : WyA, parseT B w = some a ∧ iI t 9 = iI s 9 + 1 ∧ (1 ≤ a.1 ∧ a.1 ≤ 24) ∧ (∀ d : Nat, d < 128 → (bJ (gD t 3 ((iI s 9 * 2).toNat + d / 64)) (d % 64) ↔ ∃ k : Nat, (k : Int) < a.1 ∧ a.2 k = (d : Int))) ∧ ∀ j : Nat, j < (iI s 9 * 2).toNat → gD t 3 j = gD s 3 j
theorem mnc_sam {B : Nat → Int} {w : Int} {s t u : PS} (h : MNC B w s t) (g : SDM t u) (hc : iI u 9 = iI t 9) : MNC B w s u := by
  rcases h with ⟨q1, q2⟩ | ⟨a, q1, q2, q3, q4, q5⟩
  · exact Or.inl ⟨hc.trans q1, sdm_ts q2 g⟩
  · exact Or.inr ⟨a, q1, hc.trans q2, q3, fun d hd => by rw [g]; exact q4 d hd, fun j hj => (g j).trans (q5 j hj)⟩
theorem mnc_at {B : Nat → Int} {w : Int} {s u t : PS} (h : (iI u 9 = 12 ∧ iI t 9 = 12 ∧ SDM u t) ∨ (iI u 9 ≤ 11 ∧ iI t 9 = iI u 9 + 1 ∧ MKQ (fun k => iC u 15 k) (iI u 9) (iI u 11) u t)) (hp : PAR B w u) (h1 : SDM s u) (hc : iI u 9 = iI s 9) (h0 : 0 ≤ iI u 9) : MNC B w s t := by
  rcases h with h | ⟨q1, q2, q3⟩
  · exact Or.inl ⟨by omega, sdm_ts h1 h.2.2⟩
  · obtain ⟨a, p1, p2, p3⟩ := hp
    rw [hc] at q3
    refine Or.inr ⟨a, p1, by omega, p3, fun d hd => ?_, fun j hj => ?_⟩
    · rw [q3.1 d hd]
      constructor
      · rintro ⟨k, k1, k2⟩
        exact ⟨k, by rw [p2.1]; exact k1, by rw [p2.2 k (by rw [p2.1]; exact k1)]; exact k2⟩
      · rintro ⟨k, k1, k2⟩
        exact ⟨k, by rw [← p2.1]; exact k1, by show iC u 15 k = _; rw [← p2.2 k k1]; exact k2⟩
    · rw [q3.2 j (by omega) (by omega), h1]
/-- the class's masks and the model's places say the same -/
def QLJ (s : PS) : Prop := iI s 9 ≤ 12 ∧ ∀ x d : Nat, (x : Int) < iI s 9 → d < 128 → (bJ (gD s 3 (2 * x + d / 64)) (d % 64) ↔ iC s (178 + x) d ≠ -1)
theorem QLJ_fm {L M : List Nat} {s t : PS} (F : Fm L M s t) (h : (9 ∉ L ∧ 3 + 1000 ∉ M) ∧ ∀ j, j < 12 → 178 + j ∉ M) (r : QLJ s) : QLJ t := by
  refine ⟨by rw [fm_i F h.1.1]; exact r.1, fun x d hx hd => ?_⟩
  rw [fm_i F h.1.1] at hx
  have r1 := r.1
  rw [fm_dd F h.1.2, fm_c F (h.2 x (by omega))]
  exact r.2 x d hx hd
theorem qlj_up {B : Nat → Int} {w w' : Int} {s t u : PS} (h : QLJ s) (hc : MNC B w s t) (f1 : SWM s t) (hm : WNM B w' t u) (f2 : SDM t u) (f4 : iI u 9 = iI t 9) (f5 : iI t 90 = iI s 90) (e : iI s 9 = iI s 90) (e2 : iI u 9 = iI u 90) (ew : w' = w) (b : 0 ≤ iI s 9 ∧ iI t 9 ≤ 12) : QLJ u := by
  subst ew
  refine ⟨by omega, ?_⟩
  have h0 := h.1
  rcases hc with ⟨q1, q2⟩ | ⟨a, q1, q2, q3, q4, q5⟩
  · rcases hm with ⟨m1, m2⟩ | ⟨m1, -⟩
    · intro x d hx hd
      rw [f2, q2, (m2.2 x d (by omega)).2, (f1.2 x d (by omega)).2]
      exact h.2 x d (by omega) hd
    · omega
  · rcases hm with ⟨m1, m2⟩ | ⟨m1, ⟨a', p1, p2, p3, p4, p5, p6, p7⟩, m3⟩
    · omega
    · have ea : a' = a := Option.some.inj (p1.symm.trans q1)
      subst ea
      have es : iI t 90 = iI s 9 := by omega
      rw [es] at m3 p6
      intro x d hx hd
      by_cases z : (x : Int) = iI s 9
      · have ex : x = (iI s 9).toNat := by omega
        rw [f2, show 2 * x + d / 64 = (iI s 9 * 2).toNat + d / 64 by omega, q4 d hd, ex]
        rcases m3 a' p1 d hd with ⟨z1, z2⟩ | ⟨k, z1, z2, z3, z4⟩
        · rw [z1]
          constructor
          · rintro ⟨k, k1, k2⟩
            exact absurd k2 (z2 k (by omega) k1)
          · intro q; exact absurd rfl q
        · rw [z4]
          exact ⟨fun _ => by omega, fun _ => ⟨k, z2, z3⟩⟩
      · rw [f2, q5 _ (by omega), (p6 x d (by omega)).2, (f1.2 x d (by omega)).2]
        exact h.2 x d (by omega) hd
/-- what is heard of a cell all day: the totals of the streams that come to it -/
theorem qs_y {G : Int → Int} {m c v : Int} (hq : m = sqn G c.toNat) (hc : 0 ≤ c) (hv : v = G c) : m + v = sqn G (c + 1).toNat := by rw [hq]; exact sqn_up hc hv
theorem qs_n {G : Int → Int} {m c : Int} (hq : m = sqn G c.toNat) (hc : 0 ≤ c) (hv : G c = 0) : m = sqn G (c + 1).toNat := by
  have := qs_y hq hc hv.symm
  omega
abbrev QG (s : PS) (y : Int) (x : Int) : Int := if iC s (178 + x.toNat) y.toNat = -1 then 0 else iC s 12 x.toNat
abbrev QM (s : PS) (y : Int) (x : Int) : Int := if iC s (178 + x.toNat) y.toNat = -1 then 0 else sqn (CMR s x) 24
theorem qg_y {s t : PS} {L M : List Nat} {y c : Int} (F : Fm L M s t) (hM : ∀ j, j < 12 → 178 + j ∉ M) (h : QLJ t) (b : bJ (gD t 3 (c * 2 + y / 64).toNat) (y % 64).toNat) (c0 : 0 ≤ c) (c1 : c < iI t 9) (y0 : 0 ≤ y) (y1 : y ≤ 127) : QG s y c = iC s 12 c.toNat := by
  have h0 := h.1
  have h1 := h.2 c.toNat y.toNat (by omega) (by omega)
  rw [show 2 * c.toNat + y.toNat / 64 = (c * 2 + y / 64).toNat by omega, show y.toNat % 64 = (y % 64).toNat by omega, fm_c F (hM _ (by omega))] at h1
  exact if_neg (h1.mp b)
theorem qg_n {s t : PS} {L M : List Nat} {y c : Int} (F : Fm L M s t) (hM : ∀ j, j < 12 → 178 + j ∉ M) (h : QLJ t) (b : ¬ bJ (gD t 3 (c * 2 + y / 64).toNat) (y % 64).toNat) (c0 : 0 ≤ c) (c1 : c < iI t 9) (y0 : 0 ≤ y) (y1 : y ≤ 127) : QG s y c = 0 := by
  have h0 := h.1
  have h1 := h.2 c.toNat y.toNat (by omega) (by omega)
  rw [show 2 * c.toNat + y.toNat / 64 = (c * 2 + y / 64).toNat by omega, show y.toNat % 64 = (y % 64).toNat by omega, fm_c F (hM _ (by omega))] at h1
  exact if_pos (Classical.byContradiction (fun q => b (h1.mpr q)))
theorem qm_eq {s t : PS} {y : Int} {n n' : Int} (h : MQJ s) (f1 : SMR s t) (f2 : ∀ r j : Nat, r < 12 → iC t (178 + r) j = iC s (178 + r) j) (hn : n = n') (n0 : 0 ≤ n) (n1 : n ≤ 12) : sqn (QG s y) n.toNat = sqn (QM t y) n'.toNat := by
  subst hn
  refine sqn_f (fun x x0 x1 => ?_)
  show (if iC s (178 + x.toNat) y.toNat = -1 then 0 else iC s 12 x.toNat) = (if iC t (178 + x.toNat) y.toNat = -1 then 0 else sqn (CMR t x) 24)
  rw [f2 _ _ (by omega), h.1.2 x x0 (by omega), sqn_f (f := CNR s x) (g := CMR t x) (fun k k0 k1 => by rw [f1 x k x0 (by omega)]; exact h.2.1 x k x0 (by omega) k0 (by omega))]
theorem am_c {f : Nat → Int} {s t : PS} (h : (iI s 9 = 12 ∧ iI t 9 = 12 ∧ SDM s t) ∨ (iI s 9 ≤ 11 ∧ iI t 9 = iI s 9 + 1 ∧ MKQ f (iI s 9) (iI s 11) s t)) : (iI s 9 = 12 ∧ iI t 9 = 12) ∨ (iI s 9 ≤ 11 ∧ iI t 9 = iI s 9 + 1) := h.imp (fun q => ⟨q.1, q.2.1⟩) (fun q => ⟨q.1, q.2.1⟩)
theorem or_1 {e : Int} {p q : Prop} (h : (e = 1 ∧ p) ∨ (e = 0 ∧ q)) (he : e ≠ 0) : p := h.elim (fun z => z.2) (fun z => absurd z.1 he)
theorem or_0 {e : Int} {p q : Prop} (h : (e = 1 ∧ p) ∨ (e = 0 ∧ q)) (he : e = 0) : q := h.elim (fun z => by omega) (fun z => z.2)
theorem qg_sam {s t : PS} {y : Int} {n : Nat} (hn : n ≤ 12) (h1 : SWM s t) (h2 : SAM 12 s t) : sqn (QG t y) n = sqn (QG s y) n := sqn_f (fun x x0 x1 => by
  show (if iC t (178 + x.toNat) y.toNat = -1 then 0 else iC t 12 x.toNat) = (if iC s (178 + x.toNat) y.toNat = -1 then 0 else iC s 12 x.toNat)
  rw [(h1.2 x.toNat y.toNat (by omega)).2, h2])
theorem cmr_rows {s t : PS} {x : Int} (h : SMR s t) (x0 : 0 ≤ x) (x1 : x ≤ 11) : sqn (CMR t x) 24 = sqn (CMR s x) 24 := sqn_f (fun k _ _ => h x k x0 x1)
section M87f
variable {l : Launch} {s0 : State} {D : va_G} {tys : List (ClassId × FieldType)} {a0 : Array Value} {A : Nat → Nat} {dT : Nat → ClassId} {s : PS}
set_option maxRecDepth 4000 in
theorem c9_wipeM (G : GX l s0 D tys a0 dT) (I : Bd s) {x : Int} (p0 : 0 ≤ x ∧ x ≤ 11) : CT l s0 D A dT 108 (rmN 108) [.ref (A 3), .int (Int32.ofInt x)] s (fun o t => Bd t ∧ Fm [] [1003, 1004, 1005] s t ∧ o = .inl none ∧ (WIM x s t)) := by
  refine ct_ofX G (by decide) (Nat.le_of_ble_eq_true rfl) (fun k X E ET hRt hXt q => ?_)
  show WS k 0 [(0, .ref (A 3)), (1, .int (Int32.ofInt x))] [] _ 0 0
  have F : Fm [] [1003, 1004, 1005] s s := fm_rf _ _ s
  have L22 : ∀ (n : Nat) (t : PS) (xv c : Int), Bd t → Fm [] [1003, 1004, 1005] s t → (WIM x s t) → ((0 ≤ xv ∧ xv ≤ 11) ∧ 0 ≤ c ∧ c ≤ 14) → (14 - c : Int).toNat < n → (∀ (t' : PS) (c' : Int), Bd t' → Fm [] [1003, 1004, 1005] s t' → (WIM x s t') → ((0 ≤ xv ∧ xv ≤ 11) ∧ 0 ≤ c' ∧ c' ≤ 14) → WS k 48 [(0, .ref (A 3)), (1, .int (Int32.ofInt xv)), (2, .int (Int32.ofInt c'))] [] (Wd A dT t') 0 0) → WS k 22 [(0, .ref (A 3)), (1, .int (Int32.ofInt xv)), (2, .int (Int32.ofInt c))] [] (Wd A dT t) 0 0 := by
    intro n
    induction n with
    | zero =>
      intro t xv c I F hq hi hm kx
      exact absurd hm (Nat.not_lt_zero _)
    | succ n ih =>
      intro t xv c I F hq hi hm kx
      refine z_load_n X (x := c) (show cdA 108 22 = some (.iload_n 2, 1, 0, 0, 0) from rfl) (List.Mem.tail _ (List.Mem.tail _ (List.Mem.head _))) ?_
      refine z_bipush X (show cdA 108 23 = some (.bipush 14, 2, 0, 0, 14) from rfl) ?_
      refine z_icmp_ge X (t := 48) (show cdA 108 25 = some (.if_icmp .ge 23, 3, 3, 0, 0) from rfl) (by decide) ⟨by first | exact oq_fa4e5087 hi.2.1 | omega, by first | exact oq_b2d5d781 hi.2.2 | omega⟩ (by decide) (fun g1001 => ?_) (fun g1001 => ?_)
      ·
        refine WS_lv (lv := [(0, .ref (A 3)), (1, .int (Int32.ofInt xv)), (2, .int (Int32.ofInt c))]) (List.forall_mem_cons.mpr ⟨(List.Mem.head _), (List.forall_mem_cons.mpr ⟨(List.Mem.tail _ (List.Mem.head _)), (List.forall_mem_cons.mpr ⟨(List.Mem.tail _ (List.Mem.tail _ (List.Mem.head _))), (fun q h => absurd h List.not_mem_nil)⟩)⟩)⟩) ?_
        exact kx _ c I F hq (by first | exact ⟨And.intro (hi.1.1) (hi.1.2), hi.2.1, hi.2.2⟩ | omega)
      ·
        refine z_aload_n X (x := A 3) (show cdA 108 28 = some (.aload_n 0, 1, 0, 0, 0) from rfl) (List.Mem.head _) ?_
        refine s_getR X 3 (show cdA 108 29 = some (.getfield 22, 3, 9, 4, 0) from rfl) (by decide) rfl rfl ?_
        refine z_load_n X (x := xv) (show cdA 108 32 = some (.iload_n 1, 1, 0, 0, 0) from rfl) (List.Mem.tail _ (List.Mem.head _)) ?_
        refine z_bipush X (show cdA 108 33 = some (.bipush 7, 2, 0, 0, 7) from rfl) ?_
        refine z_mul X (show cdA 108 35 = some (.imul, 1, 0, 0, 0) from rfl) ?_
        refine z_const X (show cdA 108 36 = some (.iconst 2, 1, 0, 0, 0) from rfl) ?_
        refine z_mul X (show cdA 108 37 = some (.imul, 1, 0, 0, 0) from rfl) ?_
        refine z_load_n X (x := c) (show cdA 108 38 = some (.iload_n 2, 1, 0, 0, 0) from rfl) (List.Mem.tail _ (List.Mem.tail _ (List.Mem.head _))) ?_
        refine z_add X (show cdA 108 39 = some (.iadd, 1, 0, 0, 0) from rfl) ?_
        refine w_lconst X.1 (ax_d X (show cdA 108 40 = some (.lconst 0, 1, 0, 0, 0) from rfl)) (z := (0 : Int64)) (by decide) ?_
        refine z_last X 7 (show cdA 108 41 = some (.lastore, 1, 0, 0, 0) from rfl) (by decide) rfl (by first | exact oq_5903f419 hi.1.1 hi.2.1 | omega) (show (((xv * 7) * 2) + c) < 168 by first | exact oq_7e6b1f23 hi.1.2 g1001 | omega) (by decide) ?_
        obtain ⟨s1002, hs1002⟩ : ∃ x0, x0 = uD t 4 ((((xv * 7) * 2) + c)).toNat (0 : Int64) := ⟨_, rfl⟩
        rw [← hs1002]
        have Is1002 : Bd s1002 := by rw [hs1002]; exact bd_D I
        have Fs1002 : Fm [] [1003, 1004, 1005] s s1002 := by rw [hs1002]; exact fm_D F (show 4 + 1000 ∈ _ by decide)
        have aws1002_SDM : SDM t s1002 := by rw [hs1002]; exact sdm_D (by decide) (sdm_rf (s := t))
        refine z_inc X (x := c) (lv' := [(2, .int (Int32.ofInt (c + 1))), (0, .ref (A 3)), (1, .int (Int32.ofInt xv))]) (show cdA 108 42 = some (.iinc 2 1, 3, 0, 0, 0) from rfl) (by decide) (List.Mem.tail _ (List.Mem.tail _ (List.Mem.head _))) (fun _ h => h) ?_
        refine z_goto X (t := 22) (show cdA 108 45 = some (.goto (-23), 3, 0, 0, 0) from rfl) (by decide) ?_
        refine WS_lv (lv := [(0, .ref (A 3)), (1, .int (Int32.ofInt xv)), (2, .int (Int32.ofInt (c + 1)))]) (List.forall_mem_cons.mpr ⟨(List.Mem.tail _ (List.Mem.head _)), (List.forall_mem_cons.mpr ⟨(List.Mem.tail _ (List.Mem.tail _ (List.Mem.head _))), (List.forall_mem_cons.mpr ⟨(List.Mem.head _), (fun q h => absurd h List.not_mem_nil)⟩)⟩)⟩) ?_
        exact ih _ xv (c + 1) Is1002 Fs1002 (wim_sam hq aws1002_SDM) (by first | exact ⟨And.intro (hi.1.1) (hi.1.2), oq_54f49eb5 hi.2.1, oq_99721bc4 g1001⟩ | omega) (by first | exact qk_me hm (by decide) (oq_bddbca7a g1001) | omega) kx
  have L50 : ∀ (n : Nat) (t : PS) (xv c : Int), Bd t → Fm [] [1003, 1004, 1005] s t → (WIM x s t) → ((0 ≤ xv ∧ xv ≤ 11) ∧ 0 ≤ c ∧ c ≤ 5) → (5 - c : Int).toNat < n → (∀ (t' : PS) (c' : Int), Bd t' → Fm [] [1003, 1004, 1005] s t' → (WIM x s t') → ((0 ≤ xv ∧ xv ≤ 11) ∧ 0 ≤ c' ∧ c' ≤ 5) → WS k 72 [(0, .ref (A 3)), (1, .int (Int32.ofInt xv)), (2, .int (Int32.ofInt c'))] [] (Wd A dT t') 0 0) → WS k 50 [(0, .ref (A 3)), (1, .int (Int32.ofInt xv)), (2, .int (Int32.ofInt c))] [] (Wd A dT t) 0 0 := by
    intro n
    induction n with
    | zero =>
      intro t xv c I F hq hi hm kx
      exact absurd hm (Nat.not_lt_zero _)
    | succ n ih =>
      intro t xv c I F hq hi hm kx
      refine z_load_n X (x := c) (show cdA 108 50 = some (.iload_n 2, 1, 0, 0, 0) from rfl) (List.Mem.tail _ (List.Mem.tail _ (List.Mem.head _))) ?_
      refine z_const X (show cdA 108 51 = some (.iconst 5, 1, 0, 0, 0) from rfl) ?_
      refine z_icmp_ge X (t := 72) (show cdA 108 52 = some (.if_icmp .ge 20, 3, 3, 0, 0) from rfl) (by decide) ⟨by first | exact oq_fa4e5087 hi.2.1 | omega, by first | exact oq_a3dd55e5 hi.2.2 | omega⟩ (by decide) (fun g2001 => ?_) (fun g2001 => ?_)
      ·
        refine WS_lv (lv := [(0, .ref (A 3)), (1, .int (Int32.ofInt xv)), (2, .int (Int32.ofInt c))]) (List.forall_mem_cons.mpr ⟨(List.Mem.head _), (List.forall_mem_cons.mpr ⟨(List.Mem.tail _ (List.Mem.head _)), (List.forall_mem_cons.mpr ⟨(List.Mem.tail _ (List.Mem.tail _ (List.Mem.head _))), (fun q h => absurd h List.not_mem_nil)⟩)⟩)⟩) ?_
        exact kx _ c I F hq (by first | exact ⟨And.intro (hi.1.1) (hi.1.2), hi.2.1, hi.2.2⟩ | omega)
      ·
        refine z_aload_n X (x := A 3) (show cdA 108 55 = some (.aload_n 0, 1, 0, 0, 0) from rfl) (List.Mem.head _) ?_
        refine s_getR X 3 (show cdA 108 56 = some (.getfield 25, 3, 9, 5, 0) from rfl) (by decide) rfl rfl ?_
        refine z_load_n X (x := xv) (show cdA 108 59 = some (.iload_n 1, 1, 0, 0, 0) from rfl) (List.Mem.tail _ (List.Mem.head _)) ?_
        refine z_const X (show cdA 108 60 = some (.iconst 5, 1, 0, 0, 0) from rfl) ?_
        refine z_mul X (show cdA 108 61 = some (.imul, 1, 0, 0, 0) from rfl) ?_
        refine z_load_n X (x := c) (show cdA 108 62 = some (.iload_n 2, 1, 0, 0, 0) from rfl) (List.Mem.tail _ (List.Mem.tail _ (List.Mem.head _))) ?_
        refine z_add X (show cdA 108 63 = some (.iadd, 1, 0, 0, 0) from rfl) ?_
        refine w_lconst X.1 (ax_d X (show cdA 108 64 = some (.lconst 0, 1, 0, 0, 0) from rfl)) (z := (0 : Int64)) (by decide) ?_
        refine z_last X 8 (show cdA 108 65 = some (.lastore, 1, 0, 0, 0) from rfl) (by decide) rfl (by first | exact oq_59a253bd hi.1.1 hi.2.1 | omega) (show ((xv * 5) + c) < 60 by first | exact oq_7279bf48 hi.1.2 g2001 | omega) (by decide) ?_
        obtain ⟨s2002, hs2002⟩ : ∃ x0, x0 = uD t 5 (((xv * 5) + c)).toNat (0 : Int64) := ⟨_, rfl⟩
        rw [← hs2002]
        have Is2002 : Bd s2002 := by rw [hs2002]; exact bd_D I
        have Fs2002 : Fm [] [1003, 1004, 1005] s s2002 := by rw [hs2002]; exact fm_D F (show 5 + 1000 ∈ _ by decide)
        have aws2002_SDM : SDM t s2002 := by rw [hs2002]; exact sdm_D (by decide) (sdm_rf (s := t))
        refine z_inc X (x := c) (lv' := [(2, .int (Int32.ofInt (c + 1))), (0, .ref (A 3)), (1, .int (Int32.ofInt xv))]) (show cdA 108 66 = some (.iinc 2 1, 3, 0, 0, 0) from rfl) (by decide) (List.Mem.tail _ (List.Mem.tail _ (List.Mem.head _))) (fun _ h => h) ?_
        refine z_goto X (t := 50) (show cdA 108 69 = some (.goto (-19), 3, 0, 0, 0) from rfl) (by decide) ?_
        refine WS_lv (lv := [(0, .ref (A 3)), (1, .int (Int32.ofInt xv)), (2, .int (Int32.ofInt (c + 1)))]) (List.forall_mem_cons.mpr ⟨(List.Mem.tail _ (List.Mem.head _)), (List.forall_mem_cons.mpr ⟨(List.Mem.tail _ (List.Mem.tail _ (List.Mem.head _))), (List.forall_mem_cons.mpr ⟨(List.Mem.head _), (fun q h => absurd h List.not_mem_nil)⟩)⟩)⟩) ?_
        exact ih _ xv (c + 1) Is2002 Fs2002 (wim_sam hq aws2002_SDM) (by first | exact ⟨And.intro (hi.1.1) (hi.1.2), oq_54f49eb5 hi.2.1, oq_c2445583 g2001⟩ | omega) (by first | exact qk_me hm (by decide) (oq_33241a94 g2001) | omega) kx
  refine z_aload_n X (x := A 3) (show cdA 108 0 = some (.aload_n 0, 1, 0, 0, 0) from rfl) (List.Mem.head _) ?_
  refine s_getR X 3 (show cdA 108 1 = some (.getfield 18, 3, 9, 3, 0) from rfl) (by decide) rfl rfl ?_
  refine z_load_n X (x := x) (show cdA 108 4 = some (.iload_n 1, 1, 0, 0, 0) from rfl) (List.Mem.tail _ (List.Mem.head _)) ?_
  refine z_const X (show cdA 108 5 = some (.iconst 2, 1, 0, 0, 0) from rfl) ?_
  refine z_mul X (show cdA 108 6 = some (.imul, 1, 0, 0, 0) from rfl) ?_
  refine w_lconst X.1 (ax_d X (show cdA 108 7 = some (.lconst 0, 1, 0, 0, 0) from rfl)) (z := (0 : Int64)) (by decide) ?_
  refine z_last X 6 (show cdA 108 8 = some (.lastore, 1, 0, 0, 0) from rfl) (by decide) rfl (by first | exact oq_cfc6ac54 p0.1 | omega) (show (x * 2) < 24 by first | exact oq_36c3846a p0.2 | omega) (by decide) ?_
  obtain ⟨s1, hs1⟩ : ∃ x0, x0 = uD s 3 ((x * 2)).toNat (0 : Int64) := ⟨_, rfl⟩
  rw [← hs1]
  have Is1 : Bd s1 := by rw [hs1]; exact bd_D I
  have Fs1 : Fm [] [1003, 1004, 1005] s s1 := by rw [hs1]; exact fm_D F (show 3 + 1000 ∈ _ by decide)
  refine z_aload_n X (x := A 3) (show cdA 108 9 = some (.aload_n 0, 1, 0, 0, 0) from rfl) (List.Mem.head _) ?_
  refine s_getR X 3 (show cdA 108 10 = some (.getfield 18, 3, 9, 3, 0) from rfl) (by decide) rfl rfl ?_
  refine z_load_n X (x := x) (show cdA 108 13 = some (.iload_n 1, 1, 0, 0, 0) from rfl) (List.Mem.tail _ (List.Mem.head _)) ?_
  refine z_const X (show cdA 108 14 = some (.iconst 2, 1, 0, 0, 0) from rfl) ?_
  refine z_mul X (show cdA 108 15 = some (.imul, 1, 0, 0, 0) from rfl) ?_
  refine z_const X (show cdA 108 16 = some (.iconst 1, 1, 0, 0, 0) from rfl) ?_
  refine z_add X (show cdA 108 17 = some (.iadd, 1, 0, 0, 0) from rfl) ?_
  refine w_lconst X.1 (ax_d X (show cdA 108 18 = some (.lconst 0, 1, 0, 0, 0) from rfl)) (z := (0 : Int64)) (by decide) ?_
  refine z_last X 6 (show cdA 108 19 = some (.lastore, 1, 0, 0, 0) from rfl) (by decide) rfl (by first | exact oq_8a3e0277 p0.1 | omega) (show ((x * 2) + 1) < 24 by first | exact oq_ad30b59c p0.2 | omega) (by decide) ?_
  obtain ⟨s2, hs2⟩ : ∃ x0, x0 = uD s1 3 (((x * 2) + 1)).toNat (0 : Int64) := ⟨_, rfl⟩
  rw [← hs2]
  have Is2 : Bd s2 := by rw [hs2]; exact bd_D Is1
  have Fs2 : Fm [] [1003, 1004, 1005] s s2 := by rw [hs2]; exact fm_D Fs1 (show 3 + 1000 ∈ _ by decide)
  have hWI : WIM x s s2 := wim_of hs1 hs2 rfl rfl (by omega)
  refine z_const X (show cdA 108 20 = some (.iconst 0, 1, 0, 0, 0) from rfl) ?_
  refine z_store_n X (lv' := [(2, .int (Int32.ofInt 0)), (0, .ref (A 3)), (1, .int (Int32.ofInt x))]) (show cdA 108 21 = some (.istore_n 2, 1, 0, 0, 0) from rfl) (by decide) (fun _ h => h) ?_
  refine WS_lv (lv := [(0, .ref (A 3)), (1, .int (Int32.ofInt x)), (2, .int (Int32.ofInt 0))]) (List.forall_mem_cons.mpr ⟨(List.Mem.tail _ (List.Mem.head _)), (List.forall_mem_cons.mpr ⟨(List.Mem.tail _ (List.Mem.tail _ (List.Mem.head _))), (List.forall_mem_cons.mpr ⟨(List.Mem.head _), (fun q h => absurd h List.not_mem_nil)⟩)⟩)⟩) ?_
  refine L22 ((14 - 0 : Int).toNat + 1) s2 x 0 Is2 Fs2 hWI (by first | exact ⟨And.intro (p0.1) (p0.2), by decide, by decide⟩ | omega) (Nat.lt_succ_self _) ?_
  intro s3 x4 Is3 Fs3 Qs3 hs3
  refine z_const X (show cdA 108 48 = some (.iconst 0, 1, 0, 0, 0) from rfl) ?_
  refine z_store_n X (lv' := [(2, .int (Int32.ofInt 0)), (0, .ref (A 3)), (1, .int (Int32.ofInt x))]) (show cdA 108 49 = some (.istore_n 2, 1, 0, 0, 0) from rfl) (by decide) (fun _ h => h) ?_
  refine WS_lv (lv := [(0, .ref (A 3)), (1, .int (Int32.ofInt x)), (2, .int (Int32.ofInt 0))]) (List.forall_mem_cons.mpr ⟨(List.Mem.tail _ (List.Mem.head _)), (List.forall_mem_cons.mpr ⟨(List.Mem.tail _ (List.Mem.tail _ (List.Mem.head _))), (List.forall_mem_cons.mpr ⟨(List.Mem.head _), (fun q h => absurd h List.not_mem_nil)⟩)⟩)⟩) ?_
  refine L50 ((5 - 0 : Int).toNat + 1) s3 x 0 Is3 Fs3 Qs3 (by first | exact ⟨And.intro (hs3.1.1) (hs3.1.2), by decide, by decide⟩ | omega) (Nat.lt_succ_self _) ?_
  intro s5 x6 Is5 Fs5 Qs5 hs5
  exact w_vret X.1 q hRt (ax_d X (show cdA 108 72 = some (.return_, 1, 0, 0, 0) from rfl)) (Nat.zero_le _) (Nat.zero_le _) ⟨_, rfl, Is5, Fs5, rfl, Qs5⟩
set_option maxRecDepth 4000 in
theorem c9_setWayM (G : GX l s0 D tys a0 dT) (I : Bd s) {x z w : Int} (p0 : 0 ≤ x ∧ x ≤ 11) (p1 : 0 ≤ w ∧ w ≤ 24) (p2 : z = 0 ∧ z + w ≤ 24) : CT l s0 D A dT 107 (rmN 107) [.ref (A 3), .int (Int32.ofInt x), .ref (A 18), .int (Int32.ofInt z), .int (Int32.ofInt w)] s (fun o t => Bd t ∧ Fm [] [1, 2, 1003, 1004, 1005] s t ∧ o = .inl none ∧ (MKQ (fun k => iC s 15 k) x w s t)) := by
  refine ct_ofX G (by decide) (Nat.le_of_ble_eq_true rfl) (fun k X E ET hRt hXt q => ?_)
  show WS k 0 [(0, .ref (A 3)), (1, .int (Int32.ofInt x)), (2, .ref (A 18)), (3, .int (Int32.ofInt z)), (4, .int (Int32.ofInt w))] [] _ 0 0
  have F : Fm [] [1, 2, 1003, 1004, 1005] s s := fm_rf _ _ s
  have aw0_SDM : SDM s s := sdm_rf
  have L35 : ∀ (n : Nat) (t : PS) (xv zv wv go c : Int), Bd t → Fm [] [1, 2, 1003, 1004, 1005] s t → (MKQ (fun k => iC s 15 k) x c s t) → ((xv = x ∧ zv = 0 ∧ wv = w ∧ c ≤ w) ∧ (0 ≤ xv ∧ xv ≤ 11) ∧ (0 ≤ wv ∧ wv ≤ 24) ∧ (0 ≤ zv ∧ zv + wv ≤ 24) ∧ (0 ≤ go ∧ go ≤ 6) ∧ 0 ≤ c ∧ c ≤ 24) → (24 - c : Int).toNat < n → (∀ (t' : PS) (go' c' : Int), Bd t' → Fm [] [1, 2, 1003, 1004, 1005] s t' → (MKQ (fun k => iC s 15 k) x w s t') → (c' = w) → WS k 153 [(0, .ref (A 3)), (2, .ref (A 18)), (1, .int (Int32.ofInt xv)), (3, .int (Int32.ofInt zv)), (4, .int (Int32.ofInt wv)), (5, .int (Int32.ofInt go')), (6, .int (Int32.ofInt c'))] [] (Wd A dT t') 0 0) → WS k 35 [(0, .ref (A 3)), (2, .ref (A 18)), (1, .int (Int32.ofInt xv)), (3, .int (Int32.ofInt zv)), (4, .int (Int32.ofInt wv)), (5, .int (Int32.ofInt go)), (6, .int (Int32.ofInt c))] [] (Wd A dT t) 0 0 := by
    intro n
    induction n with
    | zero =>
      intro t xv zv wv go c I F hq hi hm kx
      exact absurd hm (Nat.not_lt_zero _)
    | succ n ih =>
      intro t xv zv wv go c I F hq hi hm kx
      refine z_load X (x := c) (show cdA 107 35 = some (.iload 6, 2, 0, 0, 0) from rfl) (List.Mem.tail _ (List.Mem.tail _ (List.Mem.tail _ (List.Mem.tail _ (List.Mem.tail _ (List.Mem.tail _ (List.Mem.head _))))))) ?_
      refine z_load X (x := wv) (show cdA 107 37 = some (.iload 4, 2, 0, 0, 0) from rfl) (List.Mem.tail _ (List.Mem.tail _ (List.Mem.tail _ (List.Mem.tail _ (List.Mem.head _))))) ?_
      refine z_icmp_ge X (t := 153) (show cdA 107 39 = some (.if_icmp .ge 114, 3, 3, 0, 0) from rfl) (by decide) ⟨by first | exact oq_fa4e5087 hi.2.2.2.2.2.1 | omega, by first | exact oq_5bcd337f hi.2.2.2.2.2.2 | omega⟩ ⟨by first | exact oq_fa4e5087 hi.2.2.1.1 | omega, by first | exact oq_5bcd337f hi.2.2.1.2 | omega⟩ (fun g1001 => ?_) (fun g1001 => ?_)
      ·
        refine WS_lv (lv := [(0, .ref (A 3)), (2, .ref (A 18)), (1, .int (Int32.ofInt xv)), (3, .int (Int32.ofInt zv)), (4, .int (Int32.ofInt wv)), (5, .int (Int32.ofInt go)), (6, .int (Int32.ofInt c))]) (List.forall_mem_cons.mpr ⟨(List.Mem.head _), (List.forall_mem_cons.mpr ⟨(List.Mem.tail _ (List.Mem.head _)), (List.forall_mem_cons.mpr ⟨(List.Mem.tail _ (List.Mem.tail _ (List.Mem.head _))), (List.forall_mem_cons.mpr ⟨(List.Mem.tail _ (List.Mem.tail _ (List.Mem.tail _ (List.Mem.head _)))), (List.forall_mem_cons.mpr ⟨(List.Mem.tail _ (List.Mem.tail _ (List.Mem.tail _ (List.Mem.tail _ (List.Mem.head _))))), (List.forall_mem_cons.mpr ⟨(List.Mem.tail _ (List.Mem.tail _ (List.Mem.tail _ (List.Mem.tail _ (List.Mem.tail _ (List.Mem.head _)))))), (List.forall_mem_cons.mpr ⟨(List.Mem.tail _ (List.Mem.tail _ (List.Mem.tail _ (List.Mem.tail _ (List.Mem.tail _ (List.Mem.tail _ (List.Mem.head _))))))), (fun q h => absurd h List.not_mem_nil)⟩)⟩)⟩)⟩)⟩)⟩)⟩) ?_
        exact kx _ go c I F (by rw [show w = c by omega]; exact hq) (by first | exact oq_537ca82a hi.1.2.2.2 g1001 hi.1.2.2.1 | omega)
      ·
        refine z_aload_n X (x := A 18) (show cdA 107 42 = some (.aload_n 2, 1, 0, 0, 0) from rfl) (List.Mem.tail _ (List.Mem.head _)) ?_
        refine z_load_n X (x := zv) (show cdA 107 43 = some (.iload_n 3, 1, 0, 0, 0) from rfl) (List.Mem.tail _ (List.Mem.tail _ (List.Mem.tail _ (List.Mem.head _)))) ?_
        refine z_load X (x := c) (show cdA 107 44 = some (.iload 6, 2, 0, 0, 0) from rfl) (List.Mem.tail _ (List.Mem.tail _ (List.Mem.tail _ (List.Mem.tail _ (List.Mem.tail _ (List.Mem.tail _ (List.Mem.head _))))))) ?_
        refine z_add X (show cdA 107 46 = some (.iadd, 1, 0, 0, 0) from rfl) ?_
        refine z_ald X 18 (show cdA 107 47 = some (.iaload, 1, 0, 0, 0) from rfl) (by decide) rfl (by first | exact oq_d8d6a599 hi.2.2.2.2.2.1 hi.2.2.2.1.1 | omega) (show (zv + c) < 24 by first | exact oq_de70c7d8 hi.2.2.2.1.2 g1001 | omega) (by decide) ?_
        have b1002 : (0 : Int) ≤ iC t 15 ((zv + c)).toNat ∧ iC t 15 ((zv + c)).toNat ≤ 127 := I.2 15 _ (show ((zv + c)).toNat < 24 by first | exact oq_ff24e3f1 hi.2.2.2.1.2 g1001 | omega)
        have hce : (iC t 15 ((zv + c)).toNat) = (fun k => iC s 15 k) (c : Int).toNat := by show (iC t 15 ((zv + c)).toNat) = iC s 15 (c : Int).toNat; rw [show (zv + c) = c by omega]; exact (sam_fm F (by decide) : SAM 15 s t) _
        refine z_store X (lv' := [(7, .int (Int32.ofInt (iC t 15 ((zv + c)).toNat))), (0, .ref (A 3)), (2, .ref (A 18)), (1, .int (Int32.ofInt xv)), (3, .int (Int32.ofInt zv)), (4, .int (Int32.ofInt wv)), (5, .int (Int32.ofInt go)), (6, .int (Int32.ofInt c))]) (show cdA 107 48 = some (.istore 7, 2, 0, 0, 0) from rfl) (by decide) (fun _ h => h) ?_
        refine z_load X (x := c) (show cdA 107 50 = some (.iload 6, 2, 0, 0, 0) from rfl) (List.Mem.tail _ (List.Mem.tail _ (List.Mem.tail _ (List.Mem.tail _ (List.Mem.tail _ (List.Mem.tail _ (List.Mem.tail _ (List.Mem.head _)))))))) ?_
        refine z_const X (show cdA 107 52 = some (.iconst 1, 1, 0, 0, 0) from rfl) ?_
        refine z_add X (show cdA 107 53 = some (.iadd, 1, 0, 0, 0) from rfl) ?_
        refine z_load X (x := wv) (show cdA 107 54 = some (.iload 4, 2, 0, 0, 0) from rfl) (List.Mem.tail _ (List.Mem.tail _ (List.Mem.tail _ (List.Mem.tail _ (List.Mem.tail _ (List.Mem.head _)))))) ?_
        refine z_icmp_ge X (t := 94) (show cdA 107 56 = some (.if_icmp .ge 38, 3, 3, 0, 0) from rfl) (by decide) ⟨by first | exact oq_74de1e16 hi.2.2.2.2.2.1 | omega, by first | exact oq_3a454424 hi.2.2.2.2.2.2 | omega⟩ ⟨by first | exact oq_fa4e5087 hi.2.2.1.1 | omega, by first | exact oq_5bcd337f hi.2.2.1.2 | omega⟩ (fun g1003 => ?_) (fun g1003 => ?_)
        ·
          refine w_lconst X.1 (ax_d X (show cdA 107 94 = some (.lconst 1, 1, 0, 0, 0) from rfl)) (z := (1 : Int64)) (by decide) ?_
          refine z_load X (x := (iC t 15 ((zv + c)).toNat)) (show cdA 107 95 = some (.iload 7, 2, 0, 0, 0) from rfl) (List.Mem.head _) ?_
          refine z_bipush X (show cdA 107 97 = some (.bipush 63, 2, 0, 0, 63) from rfl) ?_
          refine z_and63 X (show cdA 107 99 = some (.iand, 1, 0, 0, 0) from rfl) (by omega) ?_
          refine z_jshl X (show cdA 107 100 = some (.lshl, 1, 0, 0, 0) from rfl) ?_
          refine w_lstore X.1 (lv' := [(8, .long (jshl (1 : Int64) ((iC t 15 ((zv + c)).toNat) % 64))), (7, .int (Int32.ofInt (iC t 15 ((zv + c)).toNat))), (0, .ref (A 3)), (2, .ref (A 18)), (1, .int (Int32.ofInt xv)), (3, .int (Int32.ofInt zv)), (4, .int (Int32.ofInt wv)), (5, .int (Int32.ofInt go)), (6, .int (Int32.ofInt c))]) (ax_d X (show cdA 107 101 = some (.lstore 8, 2, 0, 0, 0) from rfl)) (by rw [X.2.1.2.2]; decide) (fun _ h => h) ?_
          refine z_aload_n X (x := A 3) (show cdA 107 103 = some (.aload_n 0, 1, 0, 0, 0) from rfl) (List.Mem.tail _ (List.Mem.tail _ (List.Mem.head _))) ?_
          refine s_getR X 3 (show cdA 107 104 = some (.getfield 18, 3, 9, 3, 0) from rfl) (by decide) rfl rfl ?_
          refine z_load_n X (x := xv) (show cdA 107 107 = some (.iload_n 1, 1, 0, 0, 0) from rfl) (List.Mem.tail _ (List.Mem.tail _ (List.Mem.tail _ (List.Mem.tail _ (List.Mem.head _))))) ?_
          refine z_const X (show cdA 107 108 = some (.iconst 2, 1, 0, 0, 0) from rfl) ?_
          refine z_mul X (show cdA 107 109 = some (.imul, 1, 0, 0, 0) from rfl) ?_
          refine z_load X (x := (iC t 15 ((zv + c)).toNat)) (show cdA 107 110 = some (.iload 7, 2, 0, 0, 0) from rfl) (List.Mem.tail _ (List.Mem.head _)) ?_
          refine z_bipush X (show cdA 107 112 = some (.bipush 64, 2, 0, 0, 64) from rfl) ?_
          refine z_quot X (show cdA 107 114 = some (.idiv, 1, 0, 0, 0) from rfl) (by first | exact b1002.1 | omega) (rng_to _) (by decide) (by decide) ?_
          refine z_add X (show cdA 107 115 = some (.iadd, 1, 0, 0, 0) from rfl) ?_
          refine w_dup2_11 X.1 (ax_d X (show cdA 107 116 = some (.dup2, 1, 0, 0, 0) from rfl)) rfl rfl ?_
          refine z_lalE X 6 (show cdA 107 117 = some (.laload, 1, 0, 0, 0) from rfl) (by decide) rfl (by first | exact oq_c0bd8137 b1002.1 hi.2.1.1 | omega) (show ((xv * 2) + ((iC t 15 ((zv + c)).toNat) / 64)) < 24 by first | exact oq_c80b6473 b1002.2 hi.2.1.2 | omega) (by decide) ?_
          refine w_lload X.1 (ax_d X (show cdA 107 118 = some (.lload 8, 2, 0, 0, 0) from rfl)) (x := (jshl (1 : Int64) ((iC t 15 ((zv + c)).toNat) % 64))) (List.Mem.head _) ?_
          refine w_lor X.1 (ax_d X (show cdA 107 120 = some (.lor, 1, 0, 0, 0) from rfl)) ?_
          refine z_last X 6 (show cdA 107 121 = some (.lastore, 1, 0, 0, 0) from rfl) (by decide) rfl (by first | exact oq_c0bd8137 b1002.1 hi.2.1.1 | omega) (show ((xv * 2) + ((iC t 15 ((zv + c)).toNat) / 64)) < 24 by first | exact oq_c80b6473 b1002.2 hi.2.1.2 | omega) (by decide) ?_
          obtain ⟨s1004, hs1004⟩ : ∃ x0, x0 = uD t 3 (((xv * 2) + ((iC t 15 ((zv + c)).toNat) / 64))).toNat ((gD t 3 (((xv * 2) + ((iC t 15 ((zv + c)).toNat) / 64))).toNat) ||| (jshl (1 : Int64) ((iC t 15 ((zv + c)).toNat) % 64))) := ⟨_, rfl⟩
          rw [← hs1004]
          have Is1004 : Bd s1004 := by rw [hs1004]; exact bd_D I
          have Fs1004 : Fm [] [1, 2, 1003, 1004, 1005] s s1004 := by rw [hs1004]; exact fm_D F (show 3 + 1000 ∈ _ by decide)
          refine z_aload_n X (x := A 3) (show cdA 107 122 = some (.aload_n 0, 1, 0, 0, 0) from rfl) (List.Mem.tail _ (List.Mem.tail _ (List.Mem.head _))) ?_
          refine s_getR X 3 (show cdA 107 123 = some (.getfield 22, 3, 9, 4, 0) from rfl) (by decide) rfl rfl ?_
          refine z_load_n X (x := xv) (show cdA 107 126 = some (.iload_n 1, 1, 0, 0, 0) from rfl) (List.Mem.tail _ (List.Mem.tail _ (List.Mem.tail _ (List.Mem.tail _ (List.Mem.head _))))) ?_
          refine z_bipush X (show cdA 107 127 = some (.bipush 7, 2, 0, 0, 7) from rfl) ?_
          refine z_mul X (show cdA 107 129 = some (.imul, 1, 0, 0, 0) from rfl) ?_
          refine z_load X (x := go) (show cdA 107 130 = some (.iload 5, 2, 0, 0, 0) from rfl) (List.Mem.tail _ (List.Mem.tail _ (List.Mem.tail _ (List.Mem.tail _ (List.Mem.tail _ (List.Mem.tail _ (List.Mem.tail _ (List.Mem.head _)))))))) ?_
          refine z_add X (show cdA 107 132 = some (.iadd, 1, 0, 0, 0) from rfl) ?_
          refine z_const X (show cdA 107 133 = some (.iconst 2, 1, 0, 0, 0) from rfl) ?_
          refine z_mul X (show cdA 107 134 = some (.imul, 1, 0, 0, 0) from rfl) ?_
          refine z_load X (x := (iC t 15 ((zv + c)).toNat)) (show cdA 107 135 = some (.iload 7, 2, 0, 0, 0) from rfl) (List.Mem.tail _ (List.Mem.head _)) ?_
          refine z_bipush X (show cdA 107 137 = some (.bipush 64, 2, 0, 0, 64) from rfl) ?_
          refine z_quot X (show cdA 107 139 = some (.idiv, 1, 0, 0, 0) from rfl) (by first | exact b1002.1 | omega) (rng_to _) (by decide) (by decide) ?_
          refine z_add X (show cdA 107 140 = some (.iadd, 1, 0, 0, 0) from rfl) ?_
          refine w_dup2_11 X.1 (ax_d X (show cdA 107 141 = some (.dup2, 1, 0, 0, 0) from rfl)) rfl rfl ?_
          refine z_lalE X 7 (show cdA 107 142 = some (.laload, 1, 0, 0, 0) from rfl) (by decide) rfl (by first | exact oq_ea32c91a b1002.1 hi.2.2.2.2.1.1 hi.2.1.1 | omega) (show ((((xv * 7) + go) * 2) + ((iC t 15 ((zv + c)).toNat) / 64)) < 168 by first | exact oq_5da8d824 b1002.2 hi.2.2.2.2.1.2 hi.2.1.2 | omega) (by decide) ?_
          refine w_lload X.1 (ax_d X (show cdA 107 143 = some (.lload 8, 2, 0, 0, 0) from rfl)) (x := (jshl (1 : Int64) ((iC t 15 ((zv + c)).toNat) % 64))) (List.Mem.head _) ?_
          refine w_lor X.1 (ax_d X (show cdA 107 145 = some (.lor, 1, 0, 0, 0) from rfl)) ?_
          refine z_last X 7 (show cdA 107 146 = some (.lastore, 1, 0, 0, 0) from rfl) (by decide) rfl (by first | exact oq_ea32c91a b1002.1 hi.2.2.2.2.1.1 hi.2.1.1 | omega) (show ((((xv * 7) + go) * 2) + ((iC t 15 ((zv + c)).toNat) / 64)) < 168 by first | exact oq_5da8d824 b1002.2 hi.2.2.2.2.1.2 hi.2.1.2 | omega) (by decide) ?_
          obtain ⟨s1005, hs1005⟩ : ∃ x0, x0 = uD s1004 4 (((((xv * 7) + go) * 2) + ((iC t 15 ((zv + c)).toNat) / 64))).toNat ((gD s1004 4 (((((xv * 7) + go) * 2) + ((iC t 15 ((zv + c)).toNat) / 64))).toNat) ||| (jshl (1 : Int64) ((iC t 15 ((zv + c)).toNat) % 64))) := ⟨_, rfl⟩
          rw [← hs1005]
          have Is1005 : Bd s1005 := by rw [hs1005]; exact bd_D Is1004
          have Fs1005 : Fm [] [1, 2, 1003, 1004, 1005] s s1005 := by rw [hs1005]; exact fm_D Fs1004 (show 4 + 1000 ∈ _ by decide)
          have aws1005_SDM : SDM s1004 s1005 := by rw [hs1005]; exact sdm_D (by decide) (sdm_rf (s := s1004))
          refine z_inc X (x := c) (lv' := [(6, .int (Int32.ofInt (c + 1))), (8, .long (jshl (1 : Int64) ((iC t 15 ((zv + c)).toNat) % 64))), (7, .int (Int32.ofInt (iC t 15 ((zv + c)).toNat))), (0, .ref (A 3)), (2, .ref (A 18)), (1, .int (Int32.ofInt xv)), (3, .int (Int32.ofInt zv)), (4, .int (Int32.ofInt wv)), (5, .int (Int32.ofInt go))]) (show cdA 107 147 = some (.iinc 6 1, 3, 0, 0, 0) from rfl) (by decide) (List.Mem.tail _ (List.Mem.tail _ (List.Mem.tail _ (List.Mem.tail _ (List.Mem.tail _ (List.Mem.tail _ (List.Mem.tail _ (List.Mem.tail _ (List.Mem.head _))))))))) (fun _ h => h) ?_
          refine z_goto X (t := 35) (show cdA 107 150 = some (.goto (-115), 3, 0, 0, 0) from rfl) (by decide) ?_
          refine WS_lv (lv := [(0, .ref (A 3)), (2, .ref (A 18)), (1, .int (Int32.ofInt xv)), (3, .int (Int32.ofInt zv)), (4, .int (Int32.ofInt wv)), (5, .int (Int32.ofInt go)), (6, .int (Int32.ofInt (c + 1)))]) (List.forall_mem_cons.mpr ⟨(List.Mem.tail _ (List.Mem.tail _ (List.Mem.tail _ (List.Mem.head _)))), (List.forall_mem_cons.mpr ⟨(List.Mem.tail _ (List.Mem.tail _ (List.Mem.tail _ (List.Mem.tail _ (List.Mem.head _))))), (List.forall_mem_cons.mpr ⟨(List.Mem.tail _ (List.Mem.tail _ (List.Mem.tail _ (List.Mem.tail _ (List.Mem.tail _ (List.Mem.head _)))))), (List.forall_mem_cons.mpr ⟨(List.Mem.tail _ (List.Mem.tail _ (List.Mem.tail _ (List.Mem.tail _ (List.Mem.tail _ (List.Mem.tail _ (List.Mem.head _))))))), (List.forall_mem_cons.mpr ⟨(List.Mem.tail _ (List.Mem.tail _ (List.Mem.tail _ (List.Mem.tail _ (List.Mem.tail _ (List.Mem.tail _ (List.Mem.tail _ (List.Mem.head _)))))))), (List.forall_mem_cons.mpr ⟨(List.Mem.tail _ (List.Mem.tail _ (List.Mem.tail _ (List.Mem.tail _ (List.Mem.tail _ (List.Mem.tail _ (List.Mem.tail _ (List.Mem.tail _ (List.Mem.head _))))))))), (List.forall_mem_cons.mpr ⟨(List.Mem.head _), (fun q h => absurd h List.not_mem_nil)⟩)⟩)⟩)⟩)⟩)⟩)⟩) ?_
          exact ih _ xv zv wv go (c + 1) Is1005 Fs1005 (mkq_sam (mkq_up (e := (iC t 15 ((zv + c)).toNat)) hq (sdm_rf (s := t)) hs1004 (by omega) hce (by omega) (by omega) (by omega)) aws1005_SDM) (by first | exact ⟨And.intro (hi.1.1) (And.intro (hi.1.2.1) (And.intro (hi.1.2.2.1) (oq_b1226e90 hi.1.2.2.1 g1001))), And.intro (hi.2.1.1) (hi.2.1.2), And.intro (hi.2.2.1.1) (hi.2.2.1.2), And.intro (hi.2.2.2.1.1) (hi.2.2.2.1.2), And.intro (hi.2.2.2.2.1.1) (hi.2.2.2.2.1.2), oq_54f49eb5 hi.2.2.2.2.2.1, oq_41473be0 g1001 hi.2.2.1.2⟩ | omega) (by first | exact qk_me hm (by decide) (oq_9dea93e6 g1001 hi.2.2.1.2) | omega) kx
        ·
          refine z_load X (x := (iC t 15 ((zv + c)).toNat)) (show cdA 107 59 = some (.iload 7, 2, 0, 0, 0) from rfl) (List.Mem.head _) ?_
          refine z_aload_n X (x := A 18) (show cdA 107 61 = some (.aload_n 2, 1, 0, 0, 0) from rfl) (List.Mem.tail _ (List.Mem.tail _ (List.Mem.head _))) ?_
          refine z_load_n X (x := zv) (show cdA 107 62 = some (.iload_n 3, 1, 0, 0, 0) from rfl) (List.Mem.tail _ (List.Mem.tail _ (List.Mem.tail _ (List.Mem.tail _ (List.Mem.head _))))) ?_
          refine z_load X (x := c) (show cdA 107 63 = some (.iload 6, 2, 0, 0, 0) from rfl) (List.Mem.tail _ (List.Mem.tail _ (List.Mem.tail _ (List.Mem.tail _ (List.Mem.tail _ (List.Mem.tail _ (List.Mem.tail _ (List.Mem.head _)))))))) ?_
          refine z_add X (show cdA 107 65 = some (.iadd, 1, 0, 0, 0) from rfl) ?_
          refine z_const X (show cdA 107 66 = some (.iconst 1, 1, 0, 0, 0) from rfl) ?_
          refine z_add X (show cdA 107 67 = some (.iadd, 1, 0, 0, 0) from rfl) ?_
          refine z_ald X 18 (show cdA 107 68 = some (.iaload, 1, 0, 0, 0) from rfl) (by decide) rfl (by first | exact oq_c2d8fe16 hi.2.2.2.2.2.1 hi.2.2.2.1.1 | omega) (show ((zv + c) + 1) < 24 by first | exact oq_c07d830a hi.2.2.2.1.2 g1003 | omega) (by decide) ?_
          have b1006 : (0 : Int) ≤ iC t 15 (((zv + c) + 1)).toNat ∧ iC t 15 (((zv + c) + 1)).toNat ≤ 127 := I.2 15 _ (show (((zv + c) + 1)).toNat < 24 by first | exact oq_136cae15 hi.2.2.2.1.2 g1003 | omega)
          refine z_callS X (rm := rmN 102) (As := [.int (Int32.ofInt (iC t 15 ((zv + c)).toNat)), .int (Int32.ofInt (iC t 15 (((zv + c) + 1)).toNat))]) (st := []) (show cdA 107 69 = some (.invokestatic 119, 3, 102, 1, 0) from rfl) rfl (by rw [E.1, E.2.1, E.2.2.1]; exact c9_goBetween G I (by first | exact ⟨b1002.1, b1002.2⟩ | omega) (by first | exact ⟨b1006.1, b1006.2⟩ | omega)) ⟨by rw [E.2.2.2]; exact (show (rmN 102).frames + 1 ≤ (rmN 107).frames by decide), by rw [E.2.2.2]; exact (show 8 + (mNL (miB 102) + 11) + (rmN 102).locals ≤ (rmN 107).locals by decide), by rw [E.2.2.2]; exact (show 0 + (rmN 102).cells ≤ (rmN 107).cells by decide), by rw [E.2.2.2]; exact (show 0 + (rmN 102).slots ≤ (rmN 107).slots by decide)⟩ (Nat.le_of_ble_eq_true rfl) (fun vv s1007 hq => ?_) (fun ee s1007 hq => ?_)
          rotate_left
          · obtain ⟨rfl, e1008, hv, hrs1007, hps1007⟩ := hq; cases hv
          obtain ⟨rfl, e1008, hv, hrs1007, hps1007⟩ := hq
          cases hv
          show WS k 72 [(7, .int (Int32.ofInt (iC t 15 ((zv + c)).toNat))), (0, .ref (A 3)), (2, .ref (A 18)), (1, .int (Int32.ofInt xv)), (3, .int (Int32.ofInt zv)), (4, .int (Int32.ofInt wv)), (5, .int (Int32.ofInt go)), (6, .int (Int32.ofInt c))] [.int (Int32.ofInt e1008)] (Wd A dT t) 0 0
          refine z_store X (lv' := [(5, .int (Int32.ofInt e1008)), (7, .int (Int32.ofInt (iC t 15 ((zv + c)).toNat))), (0, .ref (A 3)), (2, .ref (A 18)), (1, .int (Int32.ofInt xv)), (3, .int (Int32.ofInt zv)), (4, .int (Int32.ofInt wv)), (6, .int (Int32.ofInt c))]) (show cdA 107 72 = some (.istore 5, 2, 0, 0, 0) from rfl) (by decide) (fun _ h => h) ?_
          refine z_aload_n X (x := A 3) (show cdA 107 74 = some (.aload_n 0, 1, 0, 0, 0) from rfl) (List.Mem.tail _ (List.Mem.tail _ (List.Mem.head _))) ?_
          refine z_load_n X (x := xv) (show cdA 107 75 = some (.iload_n 1, 1, 0, 0, 0) from rfl) (List.Mem.tail _ (List.Mem.tail _ (List.Mem.tail _ (List.Mem.tail _ (List.Mem.head _))))) ?_
          refine z_load X (x := (iC t 15 ((zv + c)).toNat)) (show cdA 107 76 = some (.iload 7, 2, 0, 0, 0) from rfl) (List.Mem.tail _ (List.Mem.head _)) ?_
          refine z_aload_n X (x := A 18) (show cdA 107 78 = some (.aload_n 2, 1, 0, 0, 0) from rfl) (List.Mem.tail _ (List.Mem.tail _ (List.Mem.tail _ (List.Mem.head _)))) ?_
          refine z_load_n X (x := zv) (show cdA 107 79 = some (.iload_n 3, 1, 0, 0, 0) from rfl) (List.Mem.tail _ (List.Mem.tail _ (List.Mem.tail _ (List.Mem.tail _ (List.Mem.tail _ (List.Mem.head _)))))) ?_
          refine z_load X (x := c) (show cdA 107 80 = some (.iload 6, 2, 0, 0, 0) from rfl) (List.Mem.tail _ (List.Mem.tail _ (List.Mem.tail _ (List.Mem.tail _ (List.Mem.tail _ (List.Mem.tail _ (List.Mem.tail _ (List.Mem.head _)))))))) ?_
          refine z_add X (show cdA 107 82 = some (.iadd, 1, 0, 0, 0) from rfl) ?_
          refine z_const X (show cdA 107 83 = some (.iconst 1, 1, 0, 0, 0) from rfl) ?_
          refine z_add X (show cdA 107 84 = some (.iadd, 1, 0, 0, 0) from rfl) ?_
          refine z_ald X 18 (show cdA 107 85 = some (.iaload, 1, 0, 0, 0) from rfl) (by decide) rfl (by first | exact oq_c2d8fe16 hi.2.2.2.2.2.1 hi.2.2.2.1.1 | omega) (show ((zv + c) + 1) < 24 by first | exact oq_c07d830a hi.2.2.2.1.2 g1003 | omega) (by decide) ?_
          have b1009 : (0 : Int) ≤ iC t 15 (((zv + c) + 1)).toNat ∧ iC t 15 (((zv + c) + 1)).toNat ≤ 127 := I.2 15 _ (show (((zv + c) + 1)).toNat < 24 by first | exact oq_136cae15 hi.2.2.2.1.2 g1003 | omega)
          refine z_min X (show cdA 107 86 = some (.invokestatic 122, 3, 0, 8, 0) from rfl) (rng_to _) (rng_to _) (by rw [E.2.2.2]; decide) (by rw [E.2.2.2]; exact Nat.le_of_ble_eq_true rfl) (Nat.zero_le _) (Nat.zero_le _) (fun e1010 he1010 => ?_)
          refine z_load X (x := e1008) (show cdA 107 89 = some (.iload 5, 2, 0, 0, 0) from rfl) (List.Mem.head _) ?_
          refine z_callV X 3 (rm := rmN 109) (As := [.int (Int32.ofInt xv), .int (Int32.ofInt e1010), .int (Int32.ofInt e1008)]) (st := []) (show cdA 107 91 = some (.invokevirtual 127, 3, 109, 0, 0) from rfl) rfl (by decide) rfl (by rw [E.1, E.2.1, E.2.2.1]; exact c9_setStep_3 G I (by first | exact ⟨hi.2.1.1, hi.2.1.2⟩ | omega) (by first | exact ⟨oq_03ccc143 he1010 b1009.1 b1002.1, oq_9c77db17 he1010 b1002.2⟩ | omega) (by first | exact ⟨hps1007.1, hps1007.2⟩ | omega)) ⟨by rw [E.2.2.2]; exact (show (rmN 109).frames + 1 ≤ (rmN 107).frames by decide), by rw [E.2.2.2]; exact (show 8 + (mNL (miB 109) + 11) + (rmN 109).locals ≤ (rmN 107).locals by decide), by rw [E.2.2.2]; exact (show 0 + (rmN 109).cells ≤ (rmN 107).cells by decide), by rw [E.2.2.2]; exact (show 0 + (rmN 109).slots ≤ (rmN 107).slots by decide)⟩ (Nat.le_of_ble_eq_true rfl) (fun vv s1011 hq => ?_) (fun ee s1011 hq => ?_)
          rotate_left
          · obtain ⟨Is1011, Fs1011, hv, hps1011⟩ := hq; cases hv
          obtain ⟨Is1011, Fs1011, hv, hps1011⟩ := hq
          cases hv
          have Gs1011 := fm_ts F Fs1011 (by decide) (by decide)
          have aws1011_SDM : SDM t s1011 := sdm_ts (sdm_rf (s := t)) (sdm_fm Fs1011 (by decide))
          show WS k 94 [(5, .int (Int32.ofInt e1008)), (7, .int (Int32.ofInt (iC t 15 ((zv + c)).toNat))), (0, .ref (A 3)), (2, .ref (A 18)), (1, .int (Int32.ofInt xv)), (3, .int (Int32.ofInt zv)), (4, .int (Int32.ofInt wv)), (6, .int (Int32.ofInt c))] [] (Wd A dT s1011) 0 0
          refine w_lconst X.1 (ax_d X (show cdA 107 94 = some (.lconst 1, 1, 0, 0, 0) from rfl)) (z := (1 : Int64)) (by decide) ?_
          refine z_load X (x := (iC t 15 ((zv + c)).toNat)) (show cdA 107 95 = some (.iload 7, 2, 0, 0, 0) from rfl) (List.Mem.tail _ (List.Mem.head _)) ?_
          refine z_bipush X (show cdA 107 97 = some (.bipush 63, 2, 0, 0, 63) from rfl) ?_
          refine z_and63 X (show cdA 107 99 = some (.iand, 1, 0, 0, 0) from rfl) (by omega) ?_
          refine z_jshl X (show cdA 107 100 = some (.lshl, 1, 0, 0, 0) from rfl) ?_
          refine w_lstore X.1 (lv' := [(8, .long (jshl (1 : Int64) ((iC t 15 ((zv + c)).toNat) % 64))), (5, .int (Int32.ofInt e1008)), (7, .int (Int32.ofInt (iC t 15 ((zv + c)).toNat))), (0, .ref (A 3)), (2, .ref (A 18)), (1, .int (Int32.ofInt xv)), (3, .int (Int32.ofInt zv)), (4, .int (Int32.ofInt wv)), (6, .int (Int32.ofInt c))]) (ax_d X (show cdA 107 101 = some (.lstore 8, 2, 0, 0, 0) from rfl)) (by rw [X.2.1.2.2]; decide) (fun _ h => h) ?_
          refine z_aload_n X (x := A 3) (show cdA 107 103 = some (.aload_n 0, 1, 0, 0, 0) from rfl) (List.Mem.tail _ (List.Mem.tail _ (List.Mem.tail _ (List.Mem.head _)))) ?_
          refine s_getR X 3 (show cdA 107 104 = some (.getfield 18, 3, 9, 3, 0) from rfl) (by decide) rfl rfl ?_
          refine z_load_n X (x := xv) (show cdA 107 107 = some (.iload_n 1, 1, 0, 0, 0) from rfl) (List.Mem.tail _ (List.Mem.tail _ (List.Mem.tail _ (List.Mem.tail _ (List.Mem.tail _ (List.Mem.head _)))))) ?_
          refine z_const X (show cdA 107 108 = some (.iconst 2, 1, 0, 0, 0) from rfl) ?_
          refine z_mul X (show cdA 107 109 = some (.imul, 1, 0, 0, 0) from rfl) ?_
          refine z_load X (x := (iC t 15 ((zv + c)).toNat)) (show cdA 107 110 = some (.iload 7, 2, 0, 0, 0) from rfl) (List.Mem.tail _ (List.Mem.tail _ (List.Mem.head _))) ?_
          refine z_bipush X (show cdA 107 112 = some (.bipush 64, 2, 0, 0, 64) from rfl) ?_
          refine z_quot X (show cdA 107 114 = some (.idiv, 1, 0, 0, 0) from rfl) (by first | exact b1002.1 | omega) (rng_to _) (by decide) (by decide) ?_
          refine z_add X (show cdA 107 115 = some (.iadd, 1, 0, 0, 0) from rfl) ?_
          refine w_dup2_11 X.1 (ax_d X (show cdA 107 116 = some (.dup2, 1, 0, 0, 0) from rfl)) rfl rfl ?_
          refine z_lalE X 6 (show cdA 107 117 = some (.laload, 1, 0, 0, 0) from rfl) (by decide) rfl (by first | exact oq_c0bd8137 b1002.1 hi.2.1.1 | omega) (show ((xv * 2) + ((iC t 15 ((zv + c)).toNat) / 64)) < 24 by first | exact oq_c80b6473 b1002.2 hi.2.1.2 | omega) (by decide) ?_
          refine w_lload X.1 (ax_d X (show cdA 107 118 = some (.lload 8, 2, 0, 0, 0) from rfl)) (x := (jshl (1 : Int64) ((iC t 15 ((zv + c)).toNat) % 64))) (List.Mem.head _) ?_
          refine w_lor X.1 (ax_d X (show cdA 107 120 = some (.lor, 1, 0, 0, 0) from rfl)) ?_
          refine z_last X 6 (show cdA 107 121 = some (.lastore, 1, 0, 0, 0) from rfl) (by decide) rfl (by first | exact oq_c0bd8137 b1002.1 hi.2.1.1 | omega) (show ((xv * 2) + ((iC t 15 ((zv + c)).toNat) / 64)) < 24 by first | exact oq_c80b6473 b1002.2 hi.2.1.2 | omega) (by decide) ?_
          obtain ⟨s1013, hs1013⟩ : ∃ x0, x0 = uD s1011 3 (((xv * 2) + ((iC t 15 ((zv + c)).toNat) / 64))).toNat ((gD s1011 3 (((xv * 2) + ((iC t 15 ((zv + c)).toNat) / 64))).toNat) ||| (jshl (1 : Int64) ((iC t 15 ((zv + c)).toNat) % 64))) := ⟨_, rfl⟩
          rw [← hs1013]
          have Is1013 : Bd s1013 := by rw [hs1013]; exact bd_D Is1011
          have Fs1013 : Fm [] [1, 2, 1003, 1004, 1005] s s1013 := by rw [hs1013]; exact fm_D Gs1011 (show 3 + 1000 ∈ _ by decide)
          refine z_aload_n X (x := A 3) (show cdA 107 122 = some (.aload_n 0, 1, 0, 0, 0) from rfl) (List.Mem.tail _ (List.Mem.tail _ (List.Mem.tail _ (List.Mem.head _)))) ?_
          refine s_getR X 3 (show cdA 107 123 = some (.getfield 22, 3, 9, 4, 0) from rfl) (by decide) rfl rfl ?_
          refine z_load_n X (x := xv) (show cdA 107 126 = some (.iload_n 1, 1, 0, 0, 0) from rfl) (List.Mem.tail _ (List.Mem.tail _ (List.Mem.tail _ (List.Mem.tail _ (List.Mem.tail _ (List.Mem.head _)))))) ?_
          refine z_bipush X (show cdA 107 127 = some (.bipush 7, 2, 0, 0, 7) from rfl) ?_
          refine z_mul X (show cdA 107 129 = some (.imul, 1, 0, 0, 0) from rfl) ?_
          refine z_load X (x := e1008) (show cdA 107 130 = some (.iload 5, 2, 0, 0, 0) from rfl) (List.Mem.tail _ (List.Mem.head _)) ?_
          refine z_add X (show cdA 107 132 = some (.iadd, 1, 0, 0, 0) from rfl) ?_
          refine z_const X (show cdA 107 133 = some (.iconst 2, 1, 0, 0, 0) from rfl) ?_
          refine z_mul X (show cdA 107 134 = some (.imul, 1, 0, 0, 0) from rfl) ?_
          refine z_load X (x := (iC t 15 ((zv + c)).toNat)) (show cdA 107 135 = some (.iload 7, 2, 0, 0, 0) from rfl) (List.Mem.tail _ (List.Mem.tail _ (List.Mem.head _))) ?_
          refine z_bipush X (show cdA 107 137 = some (.bipush 64, 2, 0, 0, 64) from rfl) ?_
          refine z_quot X (show cdA 107 139 = some (.idiv, 1, 0, 0, 0) from rfl) (by first | exact b1002.1 | omega) (rng_to _) (by decide) (by decide) ?_
          refine z_add X (show cdA 107 140 = some (.iadd, 1, 0, 0, 0) from rfl) ?_
          refine w_dup2_11 X.1 (ax_d X (show cdA 107 141 = some (.dup2, 1, 0, 0, 0) from rfl)) rfl rfl ?_
          refine z_lalE X 7 (show cdA 107 142 = some (.laload, 1, 0, 0, 0) from rfl) (by decide) rfl (by first | exact oq_f0013a75 hps1007.1 b1002.1 hi.2.1.1 | omega) (show ((((xv * 7) + e1008) * 2) + ((iC t 15 ((zv + c)).toNat) / 64)) < 168 by first | exact oq_2f745b71 hps1007.2 b1002.2 hi.2.1.2 | omega) (by decide) ?_
          refine w_lload X.1 (ax_d X (show cdA 107 143 = some (.lload 8, 2, 0, 0, 0) from rfl)) (x := (jshl (1 : Int64) ((iC t 15 ((zv + c)).toNat) % 64))) (List.Mem.head _) ?_
          refine w_lor X.1 (ax_d X (show cdA 107 145 = some (.lor, 1, 0, 0, 0) from rfl)) ?_
          refine z_last X 7 (show cdA 107 146 = some (.lastore, 1, 0, 0, 0) from rfl) (by decide) rfl (by first | exact oq_f0013a75 hps1007.1 b1002.1 hi.2.1.1 | omega) (show ((((xv * 7) + e1008) * 2) + ((iC t 15 ((zv + c)).toNat) / 64)) < 168 by first | exact oq_2f745b71 hps1007.2 b1002.2 hi.2.1.2 | omega) (by decide) ?_
          obtain ⟨s1014, hs1014⟩ : ∃ x0, x0 = uD s1013 4 (((((xv * 7) + e1008) * 2) + ((iC t 15 ((zv + c)).toNat) / 64))).toNat ((gD s1013 4 (((((xv * 7) + e1008) * 2) + ((iC t 15 ((zv + c)).toNat) / 64))).toNat) ||| (jshl (1 : Int64) ((iC t 15 ((zv + c)).toNat) % 64))) := ⟨_, rfl⟩
          rw [← hs1014]
          have Is1014 : Bd s1014 := by rw [hs1014]; exact bd_D Is1013
          have Fs1014 : Fm [] [1, 2, 1003, 1004, 1005] s s1014 := by rw [hs1014]; exact fm_D Fs1013 (show 4 + 1000 ∈ _ by decide)
          have aws1014_SDM : SDM s1013 s1014 := by rw [hs1014]; exact sdm_D (by decide) (sdm_rf (s := s1013))
          refine z_inc X (x := c) (lv' := [(6, .int (Int32.ofInt (c + 1))), (8, .long (jshl (1 : Int64) ((iC t 15 ((zv + c)).toNat) % 64))), (5, .int (Int32.ofInt e1008)), (7, .int (Int32.ofInt (iC t 15 ((zv + c)).toNat))), (0, .ref (A 3)), (2, .ref (A 18)), (1, .int (Int32.ofInt xv)), (3, .int (Int32.ofInt zv)), (4, .int (Int32.ofInt wv))]) (show cdA 107 147 = some (.iinc 6 1, 3, 0, 0, 0) from rfl) (by decide) (List.Mem.tail _ (List.Mem.tail _ (List.Mem.tail _ (List.Mem.tail _ (List.Mem.tail _ (List.Mem.tail _ (List.Mem.tail _ (List.Mem.tail _ (List.Mem.head _))))))))) (fun _ h => h) ?_
          refine z_goto X (t := 35) (show cdA 107 150 = some (.goto (-115), 3, 0, 0, 0) from rfl) (by decide) ?_
          refine WS_lv (lv := [(0, .ref (A 3)), (2, .ref (A 18)), (1, .int (Int32.ofInt xv)), (3, .int (Int32.ofInt zv)), (4, .int (Int32.ofInt wv)), (5, .int (Int32.ofInt e1008)), (6, .int (Int32.ofInt (c + 1)))]) (List.forall_mem_cons.mpr ⟨(List.Mem.tail _ (List.Mem.tail _ (List.Mem.tail _ (List.Mem.tail _ (List.Mem.head _))))), (List.forall_mem_cons.mpr ⟨(List.Mem.tail _ (List.Mem.tail _ (List.Mem.tail _ (List.Mem.tail _ (List.Mem.tail _ (List.Mem.head _)))))), (List.forall_mem_cons.mpr ⟨(List.Mem.tail _ (List.Mem.tail _ (List.Mem.tail _ (List.Mem.tail _ (List.Mem.tail _ (List.Mem.tail _ (List.Mem.head _))))))), (List.forall_mem_cons.mpr ⟨(List.Mem.tail _ (List.Mem.tail _ (List.Mem.tail _ (List.Mem.tail _ (List.Mem.tail _ (List.Mem.tail _ (List.Mem.tail _ (List.Mem.head _)))))))), (List.forall_mem_cons.mpr ⟨(List.Mem.tail _ (List.Mem.tail _ (List.Mem.tail _ (List.Mem.tail _ (List.Mem.tail _ (List.Mem.tail _ (List.Mem.tail _ (List.Mem.tail _ (List.Mem.head _))))))))), (List.forall_mem_cons.mpr ⟨(List.Mem.tail _ (List.Mem.tail _ (List.Mem.head _))), (List.forall_mem_cons.mpr ⟨(List.Mem.head _), (fun q h => absurd h List.not_mem_nil)⟩)⟩)⟩)⟩)⟩)⟩)⟩) ?_
          exact ih _ xv zv wv e1008 (c + 1) Is1014 Fs1014 (mkq_sam (mkq_up (e := (iC t 15 ((zv + c)).toNat)) hq aws1011_SDM hs1013 (by omega) hce (by omega) (by omega) (by omega)) aws1014_SDM) (by first | exact ⟨And.intro (hi.1.1) (And.intro (hi.1.2.1) (And.intro (hi.1.2.2.1) (oq_fa1aa5d6 hi.1.2.2.1 g1003))), And.intro (hi.2.1.1) (hi.2.1.2), And.intro (hi.2.2.1.1) (hi.2.2.1.2), And.intro (hi.2.2.2.1.1) (hi.2.2.2.1.2), And.intro (hps1007.1) (oq_b982df86 hps1007.2), oq_54f49eb5 hi.2.2.2.2.2.1, oq_bbeecdc2 g1003 hi.2.2.1.2⟩ | omega) (by first | exact qk_me hm (by decide) (oq_261750be g1003 hi.2.2.1.2) | omega) kx
  refine z_aload_n X (x := A 18) (show cdA 107 0 = some (.aload_n 2, 1, 0, 0, 0) from rfl) (List.Mem.tail _ (List.Mem.tail _ (List.Mem.head _))) ?_
  refine z_load_n X (x := z) (show cdA 107 1 = some (.iload_n 3, 1, 0, 0, 0) from rfl) (List.Mem.tail _ (List.Mem.tail _ (List.Mem.tail _ (List.Mem.head _)))) ?_
  refine z_aload_n X (x := A 3) (show cdA 107 2 = some (.aload_n 0, 1, 0, 0, 0) from rfl) (List.Mem.head _) ?_
  refine s_getR X 3 (show cdA 107 3 = some (.getfield 9, 3, 9, 1, 0) from rfl) (by decide) rfl rfl ?_
  refine z_load_n X (x := x) (show cdA 107 6 = some (.iload_n 1, 1, 0, 0, 0) from rfl) (List.Mem.tail _ (List.Mem.head _)) ?_
  refine z_bipush X (show cdA 107 7 = some (.bipush 24, 2, 0, 0, 24) from rfl) ?_
  refine z_mul X (show cdA 107 9 = some (.imul, 1, 0, 0, 0) from rfl) ?_
  refine z_load X (x := w) (show cdA 107 10 = some (.iload 4, 2, 0, 0, 0) from rfl) (List.Mem.tail _ (List.Mem.tail _ (List.Mem.tail _ (List.Mem.tail _ (List.Mem.head _))))) ?_
  refine z_copy X I 18 4 (st := []) (show cdA 107 12 = some (.invokestatic 109, 3, 0, 5, 0) from rfl) (by decide) (by decide) rfl rfl (by omega) (by omega) (by omega) (show z + w ≤ ((24 : Nat) : Int) by omega) (show (x * 24) + w ≤ ((288 : Nat) : Int) by omega) (by decide) (by rw [E.2.2.2]; decide) (by rw [E.2.2.2]; exact Nat.le_of_ble_eq_true rfl) (fun s1 Is1 Fs1 => ?_)
  have Gs1 := fm_ts F Fs1 (by decide) (by decide)
  have aws1_SDM : SDM s s1 := sdm_ts aw0_SDM (sdm_fm Fs1 (by decide))
  refine z_aload_n X (x := A 3) (show cdA 107 15 = some (.aload_n 0, 1, 0, 0, 0) from rfl) (List.Mem.head _) ?_
  refine s_getR X 3 (show cdA 107 16 = some (.getfield 15, 3, 9, 2, 0) from rfl) (by decide) rfl rfl ?_
  refine z_load_n X (x := x) (show cdA 107 19 = some (.iload_n 1, 1, 0, 0, 0) from rfl) (List.Mem.tail _ (List.Mem.head _)) ?_
  refine z_load X (x := w) (show cdA 107 20 = some (.iload 4, 2, 0, 0, 0) from rfl) (List.Mem.tail _ (List.Mem.tail _ (List.Mem.tail _ (List.Mem.tail _ (List.Mem.head _))))) ?_
  refine z_ast X 5 (show cdA 107 22 = some (.iastore, 1, 0, 0, 0) from rfl) (by decide) rfl (by first | exact p0.1 | omega) (show x < 12 by first | exact oq_0ddfcfee p0.2 | omega) (by decide) ?_
  obtain ⟨s2, hs2⟩ : ∃ x0, x0 = uC s1 2 (x).toNat (Int32.ofInt w) := ⟨_, rfl⟩
  rw [← hs2]
  have Is2 : Bd s2 := by rw [hs2]; exact bd_C Is1 (show (0 : Int) ≤ w ∧ w ≤ 24 by first | exact ⟨p1.1, p1.2⟩ | omega) ⟨by first | exact oq_fa4e5087 p1.1 | omega, by first | exact oq_5bcd337f p1.2 | omega⟩
  have Fs2 := fm_C (i := (x).toNat) (x := Int32.ofInt w) Gs1 (show 2 ∈ _ by decide)
  rw [← hs2] at Fs2
  have aws2_SDM : SDM s s2 := sdm_ts aws1_SDM (sdm_fm (L := []) (M := [2]) (by rw [hs2]; exact fm_C (fm_rf _ _ _) (List.Mem.head _)) (by decide))
  refine z_aload_n X (x := A 3) (show cdA 107 23 = some (.aload_n 0, 1, 0, 0, 0) from rfl) (List.Mem.head _) ?_
  refine z_load_n X (x := x) (show cdA 107 24 = some (.iload_n 1, 1, 0, 0, 0) from rfl) (List.Mem.tail _ (List.Mem.head _)) ?_
  refine z_callV X 3 (rm := rmN 108) (As := [.int (Int32.ofInt x)]) (st := []) (show cdA 107 25 = some (.invokevirtual 115, 3, 108, 0, 0) from rfl) rfl (by decide) rfl (by rw [E.1, E.2.1, E.2.2.1]; exact c9_wipeM G Is2 (by first | exact ⟨p0.1, p0.2⟩ | omega)) ⟨by rw [E.2.2.2]; exact (show (rmN 108).frames + 1 ≤ (rmN 107).frames by decide), by rw [E.2.2.2]; exact (show 8 + (mNL (miB 108) + 11) + (rmN 108).locals ≤ (rmN 107).locals by decide), by rw [E.2.2.2]; exact (show 0 + (rmN 108).cells ≤ (rmN 107).cells by decide), by rw [E.2.2.2]; exact (show 0 + (rmN 108).slots ≤ (rmN 107).slots by decide)⟩ (Nat.le_of_ble_eq_true rfl) (fun vv s3 hq => ?_) (fun ee s3 hq => ?_)
  rotate_left
  · obtain ⟨Is3, Fs3, hv, hps3⟩ := hq; cases hv
  obtain ⟨Is3, Fs3, hv, hps3⟩ := hq
  cases hv
  have Gs3 := fm_ts Fs2 Fs3 (by decide) (by decide)
  show WS k 28 [(0, .ref (A 3)), (1, .int (Int32.ofInt x)), (2, .ref (A 18)), (3, .int (Int32.ofInt z)), (4, .int (Int32.ofInt w))] [] (Wd A dT s3) 0 0
  refine z_bipush X (show cdA 107 28 = some (.bipush 6, 2, 0, 0, 6) from rfl) ?_
  refine z_store X (lv' := [(5, .int (Int32.ofInt 6)), (0, .ref (A 3)), (1, .int (Int32.ofInt x)), (2, .ref (A 18)), (3, .int (Int32.ofInt z)), (4, .int (Int32.ofInt w))]) (show cdA 107 30 = some (.istore 5, 2, 0, 0, 0) from rfl) (by decide) (fun _ h => h) ?_
  refine z_const X (show cdA 107 32 = some (.iconst 0, 1, 0, 0, 0) from rfl) ?_
  refine z_store X (lv' := [(6, .int (Int32.ofInt 0)), (5, .int (Int32.ofInt 6)), (0, .ref (A 3)), (1, .int (Int32.ofInt x)), (2, .ref (A 18)), (3, .int (Int32.ofInt z)), (4, .int (Int32.ofInt w))]) (show cdA 107 33 = some (.istore 6, 2, 0, 0, 0) from rfl) (by decide) (fun _ h => h) ?_
  refine WS_lv (lv := [(0, .ref (A 3)), (2, .ref (A 18)), (1, .int (Int32.ofInt x)), (3, .int (Int32.ofInt z)), (4, .int (Int32.ofInt w)), (5, .int (Int32.ofInt 6)), (6, .int (Int32.ofInt 0))]) (List.forall_mem_cons.mpr ⟨(List.Mem.tail _ (List.Mem.tail _ (List.Mem.head _))), (List.forall_mem_cons.mpr ⟨(List.Mem.tail _ (List.Mem.tail _ (List.Mem.tail _ (List.Mem.tail _ (List.Mem.head _))))), (List.forall_mem_cons.mpr ⟨(List.Mem.tail _ (List.Mem.tail _ (List.Mem.tail _ (List.Mem.head _)))), (List.forall_mem_cons.mpr ⟨(List.Mem.tail _ (List.Mem.tail _ (List.Mem.tail _ (List.Mem.tail _ (List.Mem.tail _ (List.Mem.head _)))))), (List.forall_mem_cons.mpr ⟨(List.Mem.tail _ (List.Mem.tail _ (List.Mem.tail _ (List.Mem.tail _ (List.Mem.tail _ (List.Mem.tail _ (List.Mem.head _))))))), (List.forall_mem_cons.mpr ⟨(List.Mem.tail _ (List.Mem.head _)), (List.forall_mem_cons.mpr ⟨(List.Mem.head _), (fun q h => absurd h List.not_mem_nil)⟩)⟩)⟩)⟩)⟩)⟩)⟩) ?_
  refine L35 ((24 - 0 : Int).toNat + 1) s3 x z w 6 0 Is3 Gs3 (mkq_0 aws2_SDM hps3 (by omega)) (by first | exact ⟨And.intro (by decide) (And.intro (p2.1) (And.intro (by decide) (p1.1))), And.intro (p0.1) (p0.2), And.intro (p1.1) (p1.2), And.intro (oq_0b35aa92 p2.1) (p2.2), And.intro (by decide) (by decide), by decide, by decide⟩ | omega) (Nat.lt_succ_self _) ?_
  intro s5 x6 x7 Is5 Fs5 Qs5 hs5
  exact w_vret X.1 q hRt (ax_d X (show cdA 107 153 = some (.return_, 1, 0, 0, 0) from rfl)) (Nat.zero_le _) (Nat.zero_le _) ⟨_, rfl, Is5, Fs5, rfl, Qs5⟩
set_option maxRecDepth 4000 in
theorem c9_addTrialM (G : GX l s0 D tys a0 dT) (I : Bd s)  : CT l s0 D A dT 106 (rmN 106) [.ref (A 3)] s (fun o t => Bd t ∧ Fm [9, 10] [1, 2, 6, 1003, 1004, 1005, 1007] s t ∧ ∃ e, o = .inl (some (.int (Int32.ofInt e))) ∧ rng e ∧ ((iI s 9 = 12 ∧ iI t 9 = 12 ∧ SDM s t) ∨ (iI s 9 ≤ 11 ∧ iI t 9 = iI s 9 + 1 ∧ MKQ (fun k => iC s 15 k) (iI s 9) (iI s 11) s t))) := by
  refine ct_ofX G (by decide) (Nat.le_of_ble_eq_true rfl) (fun k X E ET hRt hXt q => ?_)
  show WS k 0 [(0, .ref (A 3))] [] _ 0 0
  have F : Fm [9, 10] [1, 2, 6, 1003, 1004, 1005, 1007] s s := fm_rf _ _ s
  have aw0_SDM : SDM s s := sdm_rf
  have b1 : (0 : Int) ≤ iI s 9 ∧ iI s 9 ≤ 12 := I.1 9
  have b2 : (0 : Int) ≤ iI s 11 ∧ iI s 11 ≤ 24 := I.1 11
  refine z_aload_n X (x := A 3) (show cdA 106 0 = some (.aload_n 0, 1, 0, 0, 0) from rfl) (List.Mem.head _) ?_
  refine z_getI X 3 (show cdA 106 1 = some (.getfield 99, 3, 9, 0, 0) from rfl) (by decide) rfl rfl ?_
  have b3 : (0 : Int) ≤ iI s 9 ∧ iI s 9 ≤ 12 := I.1 9
  refine z_bipush X (show cdA 106 4 = some (.bipush 12, 2, 0, 0, 12) from rfl) ?_
  refine z_icmp_lt X (t := 11) (show cdA 106 6 = some (.if_icmp .lt 5, 3, 2, 0, 0) from rfl) (by decide) (rng_to _) (by decide) (fun g4 => ?_) (fun g4 => ?_)
  ·
    refine z_aload_n X (x := A 3) (show cdA 106 11 = some (.aload_n 0, 1, 0, 0, 0) from rfl) (List.Mem.head _) ?_
    refine z_aload_n X (x := A 3) (show cdA 106 12 = some (.aload_n 0, 1, 0, 0, 0) from rfl) (List.Mem.head _) ?_
    refine z_getI X 3 (show cdA 106 13 = some (.getfield 99, 3, 9, 0, 0) from rfl) (by decide) rfl rfl ?_
    have b5 : (0 : Int) ≤ iI s 9 ∧ iI s 9 ≤ 12 := I.1 9
    refine z_aload_n X (x := A 3) (show cdA 106 16 = some (.aload_n 0, 1, 0, 0, 0) from rfl) (List.Mem.head _) ?_
    refine s_getR X 3 (show cdA 106 17 = some (.getfield 55, 3, 9, 16, 0) from rfl) (by decide) rfl rfl ?_
    refine z_const X (show cdA 106 20 = some (.iconst 0, 1, 0, 0, 0) from rfl) ?_
    refine z_aload_n X (x := A 3) (show cdA 106 21 = some (.aload_n 0, 1, 0, 0, 0) from rfl) (List.Mem.head _) ?_
    refine z_getI X 3 (show cdA 106 22 = some (.getfield 58, 3, 9, 17, 0) from rfl) (by decide) rfl rfl ?_
    have b6 : (0 : Int) ≤ iI s 11 ∧ iI s 11 ≤ 24 := I.1 11
    refine z_callV X 3 (rm := rmN 107) (As := [.int (Int32.ofInt (iI s 9)), .ref (A 18), .int (Int32.ofInt 0), .int (Int32.ofInt (iI s 11))]) (st := []) (show cdA 106 25 = some (.invokevirtual 102, 3, 107, 0, 0) from rfl) rfl (by decide) rfl (by rw [E.1, E.2.1, E.2.2.1]; exact c9_setWayM G I (by first | exact ⟨b5.1, oq_a1a2e1c8 g4⟩ | omega) (by first | exact ⟨b6.1, b6.2⟩ | omega) (by first | exact ⟨by decide, oq_4854286b b6.2⟩ | omega)) ⟨by rw [E.2.2.2]; exact (show (rmN 107).frames + 1 ≤ (rmN 106).frames by decide), by rw [E.2.2.2]; exact (show 8 + (mNL (miB 107) + 11) + (rmN 107).locals ≤ (rmN 106).locals by decide), by rw [E.2.2.2]; exact (show 0 + (rmN 107).cells ≤ (rmN 106).cells by decide), by rw [E.2.2.2]; exact (show 0 + (rmN 107).slots ≤ (rmN 106).slots by decide)⟩ (Nat.le_of_ble_eq_true rfl) (fun vv s7 hq => ?_) (fun ee s7 hq => ?_)
    rotate_left
    · obtain ⟨Is7, Fs7, hv, hps7⟩ := hq; cases hv
    obtain ⟨Is7, Fs7, hv, hps7⟩ := hq
    cases hv
    have Gs7 := fm_ts F Fs7 (by decide) (by decide)
    have ws7_9 : iI s7 9 = iI s 9 := fm_i Fs7 (by decide)
    have ws7_11 : iI s7 11 = iI s 11 := fm_i Fs7 (by decide)
    show WS k 28 [(0, .ref (A 3))] [] (Wd A dT s7) 0 0
    refine z_aload_n X (x := A 3) (show cdA 106 28 = some (.aload_n 0, 1, 0, 0, 0) from rfl) (List.Mem.head _) ?_
    refine w_dup X.1 (ax_d X (show cdA 106 29 = some (.dup, 1, 0, 0, 0) from rfl)) rfl ?_
    refine z_getI X 3 (show cdA 106 30 = some (.getfield 99, 3, 9, 0, 0) from rfl) (by decide) rfl rfl ?_
    have b9 : (0 : Int) ≤ iI s7 9 ∧ iI s7 9 ≤ 12 := Is7.1 9
    refine z_const X (show cdA 106 33 = some (.iconst 1, 1, 0, 0, 0) from rfl) ?_
    refine z_add X (show cdA 106 34 = some (.iadd, 1, 0, 0, 0) from rfl) ?_
    refine s_putI X 3 (show cdA 106 35 = some (.putfield 99, 3, 9, 0, 0) from rfl) (by decide) rfl rfl (by decide) rfl rfl rfl ?_
    obtain ⟨s10, hs10⟩ : ∃ x0, x0 = uI s7 9 (Int32.ofInt ((iI s7 9) + 1)) := ⟨_, rfl⟩
    rw [← hs10]
    have Is10 : Bd s10 := by rw [hs10]; exact bd_I Is7 (show (0 : Int) ≤ ((iI s7 9) + 1) ∧ ((iI s7 9) + 1) ≤ 12 by first | exact ⟨oq_54f49eb5 b9.1, oq_3bc6d8e6 ws7_9 g4⟩ | omega) ⟨by first | exact oq_74de1e16 b9.1 | omega, by first | exact oq_76a8a5b7 b9.2 | omega⟩
    have Fs10 := fm_I (x := Int32.ofInt ((iI s7 9) + 1)) Gs7 (show 9 ∈ _ by decide)
    rw [← hs10] at Fs10
    have vs10 : iI s10 9 = ((iI s7 9) + 1) := by rw [hs10]; exact iI_u ⟨by first | exact oq_74de1e16 b9.1 | omega, by first | exact oq_76a8a5b7 b9.2 | omega⟩
    have ws10_11 : iI s10 11 = iI s7 11 := by rw [hs10]; rfl
    have aws10_SDM : SDM s7 s10 := by rw [hs10]; exact (sdm_rf (s := s7))
    refine z_aload_n X (x := A 3) (show cdA 106 38 = some (.aload_n 0, 1, 0, 0, 0) from rfl) (List.Mem.head _) ?_
    refine z_callV X 3 (rm := rmN 110) (As := []) (st := []) (show cdA 106 39 = some (.invokevirtual 106, 3, 110, 0, 0) from rfl) rfl (by decide) rfl (by rw [E.1, E.2.1, E.2.2.1]; exact c9_pairUp_3 G Is10 ) ⟨by rw [E.2.2.2]; exact (show (rmN 110).frames + 1 ≤ (rmN 106).frames by decide), by rw [E.2.2.2]; exact (show 8 + (mNL (miB 110) + 11) + (rmN 110).locals ≤ (rmN 106).locals by decide), by rw [E.2.2.2]; exact (show 0 + (rmN 110).cells ≤ (rmN 106).cells by decide), by rw [E.2.2.2]; exact (show 0 + (rmN 110).slots ≤ (rmN 106).slots by decide)⟩ (Nat.le_of_ble_eq_true rfl) (fun vv s11 hq => ?_) (fun ee s11 hq => ?_)
    rotate_left
    · obtain ⟨Is11, Fs11, hv, hps11⟩ := hq; cases hv
    obtain ⟨Is11, Fs11, hv, hps11⟩ := hq
    cases hv
    have Gs11 := fm_ts Fs10 Fs11 (by decide) (by decide)
    have ws11_9 : iI s11 9 = iI s10 9 := fm_i Fs11 (by decide)
    have ws11_11 : iI s11 11 = iI s10 11 := fm_i Fs11 (by decide)
    have aws11_SDM : SDM s7 s11 := sdm_ts aws10_SDM (sdm_fm Fs11 (by decide))
    show WS k 42 [(0, .ref (A 3))] [] (Wd A dT s11) 0 0
    refine z_aload_n X (x := A 3) (show cdA 106 42 = some (.aload_n 0, 1, 0, 0, 0) from rfl) (List.Mem.head _) ?_
    refine z_getI X 3 (show cdA 106 43 = some (.getfield 99, 3, 9, 0, 0) from rfl) (by decide) rfl rfl ?_
    have b13 : (0 : Int) ≤ iI s11 9 ∧ iI s11 9 ≤ 12 := Is11.1 9
    refine z_const X (show cdA 106 46 = some (.iconst 1, 1, 0, 0, 0) from rfl) ?_
    refine z_sub X (show cdA 106 47 = some (.isub, 1, 0, 0, 0) from rfl) ?_
    exact w_iret X.1 q hRt rfl (ax_d X (show cdA 106 48 = some (.ireturn, 1, 0, 0, 0) from rfl)) (Nat.zero_le _) (Nat.zero_le _) ⟨_, rfl, Is11, Gs11, ((iI s11 9) - 1), rfl, ⟨by first | exact oq_c1e961c7 b13.1 | omega, by first | exact oq_d526ebd3 b13.2 | omega⟩, Or.inr ⟨by first | exact oq_a1a2e1c8 g4 | omega, by first | exact oq_20fce6d9 ws11_9 vs10 ws7_9 | omega, mkq_sam hps7 aws11_SDM⟩⟩
  ·
    refine z_const X (show cdA 106 9 = some (.iconst (-1), 1, 0, 0, 0) from rfl) ?_
    exact w_iret X.1 q hRt rfl (ax_d X (show cdA 106 10 = some (.ireturn, 1, 0, 0, 0) from rfl)) (Nat.zero_le _) (Nat.zero_le _) ⟨_, rfl, I, F, (-1), rfl, (by decide), Or.inl ⟨by first | exact oq_8e7d85da b3.2 g4 | omega, by first | exact oq_8e7d85da b3.2 g4 | omega, aw0_SDM⟩⟩
set_option maxRecDepth 4000 in
theorem cs_stream4 (G : GX l s0 D tys a0 dT) {B : Nat → Int} (I : Bd s) (jBYA : BYA B s) {w : Int} (p0 : rng w) : CT l s0 D A dT 136 (rmN 136) [.ref (A 0), .int (Int32.ofInt w)] s (fun o t => Bd t ∧ Fm [11, 9, 10, 2, 4, 6, 5, 1, 3, 0, 7, 8] [15, 1, 2, 6, 1003, 1004, 1005, 1007] s t ∧ ((∃ e, o = .inl (some (.int (Int32.ofInt e))) ∧ rng e ∧ (iI t 0 = 0 ∧ 0 ≤ w ∧ w ≤ iI s 0 ∧ w ≤ 100 ∧ STRx B w (iI s 9) (iI t 9) ∧ MNC B w s t)) ∨ ∃ x : Nat, o = .inr (exN x) ∧ (x = 0 ∧ iI t 0 = iI s 0 ∧ (w < 0 ∨ iI s 0 < w ∨ 100 < w) ∧ iI t 9 = iI s 9 ∧ SDM s t))) := by
  refine ct_ofX G (by decide) (Nat.le_of_ble_eq_true rfl) (fun k X E ET hRt hXt q => ?_)
  show WS k 0 [(0, .ref (A 0)), (1, .int (Int32.ofInt w))] [] _ 0 0
  have F : Fm [11, 9, 10, 2, 4, 6, 5, 1, 3, 0, 7, 8] [15, 1, 2, 6, 1003, 1004, 1005, 1007] s s := fm_rf _ _ s
  have aw0_SDM : SDM s s := sdm_rf
  have b1 : (0 : Int) ≤ iI s 0 ∧ iI s 0 ≤ 200 := I.1 0
  have b2 : (0 : Int) ≤ iI s 9 ∧ iI s 9 ≤ 12 := I.1 9
  have b3 : (0 : Int) ≤ iI s 11 ∧ iI s 11 ≤ 24 := I.1 11
  have b4 : (0 : Int) ≤ iI s 2 ∧ iI s 2 ≤ 200 := I.1 2
  have b5 : (0 : Int) ≤ iI s 1 ∧ iI s 1 ≤ 200 := I.1 1
  have b6 : (0 : Int) ≤ iI s 4 ∧ iI s 4 ≤ 200 := I.1 4
  refine z_load_n X (x := w) (show cdA 136 0 = some (.iload_n 1, 1, 0, 0, 0) from rfl) (List.Mem.tail _ (List.Mem.head _)) ?_
  refine z_if_lt X (t := 21) (show cdA 136 1 = some (.ifCond .lt 20, 3, 2, 0, 0) from rfl) (by decide) ⟨by first | exact p0.1 | omega, by first | exact p0.2 | omega⟩ (fun g7 => ?_) (fun g7 => ?_)
  ·
    exact z_throw G X E ET hXt q (st := []) (show cdA 136 21 = some (.new 108, 3, 0, 1, 0) from rfl) (by decide) (by decide) (Nat.le_of_ble_eq_true rfl) (show 0 + 1 ≤ 1 by omega) (show 0 + 6 ≤ 6 by omega) (show 0 + 1 ≤ 1 by omega) (show 0 + 6 ≤ 6 by omega) ⟨_, rfl, I, F, Or.inr ⟨0, rfl, ⟨by omega, by omega, by omega, by omega, aw0_SDM⟩⟩⟩
  ·
    refine z_load_n X (x := w) (show cdA 136 4 = some (.iload_n 1, 1, 0, 0, 0) from rfl) (List.Mem.tail _ (List.Mem.head _)) ?_
    refine z_aload_n X (x := A 0) (show cdA 136 5 = some (.aload_n 0, 1, 0, 0, 0) from rfl) (List.Mem.head _) ?_
    refine s_getR X 0 (show cdA 136 6 = some (.getfield 10, 3, 11, 0, 0) from rfl) (by decide) rfl rfl ?_
    refine z_getI X 1 (show cdA 136 9 = some (.getfield 104, 3, 10, 1, 0) from rfl) (by decide) rfl rfl ?_
    have b8 : (0 : Int) ≤ iI s 0 ∧ iI s 0 ≤ 200 := I.1 0
    refine z_icmp_gt X (t := 21) (show cdA 136 12 = some (.if_icmp .gt 9, 3, 4, 0, 0) from rfl) (by decide) ⟨by first | exact p0.1 | omega, by first | exact p0.2 | omega⟩ (rng_to _) (fun g9 => ?_) (fun g9 => ?_)
    ·
      exact z_throw G X E ET hXt q (st := []) (show cdA 136 21 = some (.new 108, 3, 0, 1, 0) from rfl) (by decide) (by decide) (Nat.le_of_ble_eq_true rfl) (show 0 + 1 ≤ 1 by omega) (show 0 + 6 ≤ 6 by omega) (show 0 + 1 ≤ 1 by omega) (show 0 + 6 ≤ 6 by omega) ⟨_, rfl, I, F, Or.inr ⟨0, rfl, ⟨by omega, by omega, by omega, by omega, aw0_SDM⟩⟩⟩
    ·
      refine z_load_n X (x := w) (show cdA 136 15 = some (.iload_n 1, 1, 0, 0, 0) from rfl) (List.Mem.tail _ (List.Mem.head _)) ?_
      refine z_bipush X (show cdA 136 16 = some (.bipush 100, 2, 0, 0, 100) from rfl) ?_
      refine z_icmp_le X (t := 31) (show cdA 136 18 = some (.if_icmp .le 13, 3, 5, 0, 0) from rfl) (by decide) ⟨by first | exact p0.1 | omega, by first | exact p0.2 | omega⟩ (by decide) (fun g10 => ?_) (fun g10 => ?_)
      ·
        refine z_aload_n X (x := A 0) (show cdA 136 31 = some (.aload_n 0, 1, 0, 0, 0) from rfl) (List.Mem.head _) ?_
        refine s_getR X 0 (show cdA 136 32 = some (.getfield 10, 3, 11, 0, 0) from rfl) (by decide) rfl rfl ?_
        refine z_load_n X (x := w) (show cdA 136 35 = some (.iload_n 1, 1, 0, 0, 0) from rfl) (List.Mem.tail _ (List.Mem.head _)) ?_
        refine z_const X (show cdA 136 36 = some (.iconst 0, 1, 0, 0, 0) from rfl) ?_
        refine z_callV X 1 (rm := rmN 128) (As := [.int (Int32.ofInt w), .int (Int32.ofInt 0)]) (st := []) (show cdA 136 37 = some (.invokevirtual 115, 3, 128, 0, 0) from rfl) rfl (by decide) rfl (by rw [E.1, E.2.1, E.2.2.1]; exact c10_open2 G I jBYA (by first | exact ⟨g7, oq_6ab87361 g10⟩ | omega) (by decide)) ⟨by rw [E.2.2.2]; exact (show (rmN 128).frames + 1 ≤ (rmN 136).frames by decide), by rw [E.2.2.2]; exact (show 8 + (mNL (miB 128) + 11) + (rmN 128).locals ≤ (rmN 136).locals by decide), by rw [E.2.2.2]; exact (show 0 + (rmN 128).cells ≤ (rmN 136).cells by decide), by rw [E.2.2.2]; exact (show 0 + (rmN 128).slots ≤ (rmN 136).slots by decide)⟩ (Nat.le_of_ble_eq_true rfl) (fun vv s11 hq => ?_) (fun ee s11 hq => ?_)
        rotate_left
        · obtain ⟨Is11, Fs11, JBYB_s11, hv, hps11⟩ := hq; cases hv
        obtain ⟨Is11, Fs11, JBYB_s11, hv, hps11⟩ := hq
        cases hv
        have Gs11 := fm_ts F Fs11 (by decide) (by decide)
        have JBYA_s11 : BYA B s11 := BYA_fm Fs11 (by decide) jBYA
        have b13 : (0 : Int) ≤ iI s11 0 ∧ iI s11 0 ≤ 200 := Is11.1 0
        have ws11_9 : iI s11 9 = iI s 9 := fm_i Fs11 (by decide)
        have ws11_11 : iI s11 11 = iI s 11 := fm_i Fs11 (by decide)
        have b14 : (0 : Int) ≤ iI s11 2 ∧ iI s11 2 ≤ 200 := Is11.1 2
        have b15 : (0 : Int) ≤ iI s11 1 ∧ iI s11 1 ≤ 200 := Is11.1 1
        have b16 : (0 : Int) ≤ iI s11 4 ∧ iI s11 4 ≤ 200 := Is11.1 4
        have aws11_SDM : SDM s s11 := sdm_ts aw0_SDM (sdm_fm Fs11 (by decide))
        show WS k 40 [(0, .ref (A 0)), (1, .int (Int32.ofInt w))] [] (Wd A dT s11) 0 0
        refine z_aload_n X (x := A 0) (show cdA 136 40 = some (.aload_n 0, 1, 0, 0, 0) from rfl) (List.Mem.head _) ?_
        refine s_getR X 0 (show cdA 136 41 = some (.getfield 19, 3, 11, 1, 0) from rfl) (by decide) rfl rfl ?_
        refine z_aload_n X (x := A 0) (show cdA 136 44 = some (.aload_n 0, 1, 0, 0, 0) from rfl) (List.Mem.head _) ?_
        refine s_getR X 0 (show cdA 136 45 = some (.getfield 10, 3, 11, 0, 0) from rfl) (by decide) rfl rfl ?_
        refine z_callV X 3 (rm := rmN 103) (As := [.ref (A 1)]) (st := []) (show cdA 136 48 = some (.invokevirtual 119, 3, 103, 0, 0) from rfl) rfl (by decide) rfl (by rw [E.1, E.2.1, E.2.2.1]; exact c9_readWay2 G hps11.2.2.2.2 hps11.2.2.2.1 Is11 JBYB_s11 (by first | exact hps11.2.1 | omega) (by first | exact hps11.2.2.1 | omega) (by omega)) ⟨by rw [E.2.2.2]; exact (show (rmN 103).frames + 1 ≤ (rmN 136).frames by decide), by rw [E.2.2.2]; exact (show 8 + (mNL (miB 103) + 11) + (rmN 103).locals ≤ (rmN 136).locals by decide), by rw [E.2.2.2]; exact (show 0 + (rmN 103).cells ≤ (rmN 136).cells by decide), by rw [E.2.2.2]; exact (show 0 + (rmN 103).slots ≤ (rmN 136).slots by decide)⟩ (Nat.le_of_ble_eq_true rfl) (fun vv s17 hq => ?_) (fun ee s17 hq => ?_)
        rotate_left
        · obtain ⟨Is17, Fs17, JBYB_s17, e18, hv, hrs17, hps17⟩ := hq; cases hv
        obtain ⟨Is17, Fs17, JBYB_s17, e18, hv, hrs17, hps17⟩ := hq
        cases hv
        have Gs17 := fm_ts Gs11 Fs17 (by decide) (by decide)
        have JBYA_s17 : BYA B s17 := BYA_fm Fs17 (by decide) JBYA_s11
        have JBYB_s17 : BYB B w s17 := BYB_fm Fs17 (by decide) JBYB_s11
        have ws17_0 : iI s17 0 = iI s11 0 := fm_i Fs17 (by decide)
        have ws17_9 : iI s17 9 = iI s11 9 := fm_i Fs17 (by decide)
        have b19 : (0 : Int) ≤ iI s17 11 ∧ iI s17 11 ≤ 24 := Is17.1 11
        have b20 : (0 : Int) ≤ iI s17 2 ∧ iI s17 2 ≤ 200 := Is17.1 2
        have ws17_1 : iI s17 1 = iI s11 1 := fm_i Fs17 (by decide)
        have b21 : (0 : Int) ≤ iI s17 4 ∧ iI s17 4 ≤ 200 := Is17.1 4
        have aws17_SDM : SDM s s17 := sdm_ts aws11_SDM (sdm_fm Fs17 (by decide))
        show WS k 51 [(0, .ref (A 0)), (1, .int (Int32.ofInt w))] [.int (Int32.ofInt e18)] (Wd A dT s17) 0 0
        refine z_if_ne X (t := 65) (show cdA 136 51 = some (.ifCond .ne 14, 3, 1, 0, 0) from rfl) (by decide) hrs17 (fun g22 => ?_) (fun g22 => ?_)
        ·
          refine z_aload_n X (x := A 0) (show cdA 136 65 = some (.aload_n 0, 1, 0, 0, 0) from rfl) (List.Mem.head _) ?_
          refine s_getR X 0 (show cdA 136 66 = some (.getfield 19, 3, 11, 1, 0) from rfl) (by decide) rfl rfl ?_
          refine z_callV X 3 (rm := rmN 106) (As := []) (st := []) (show cdA 136 69 = some (.invokevirtual 126, 3, 106, 0, 0) from rfl) rfl (by decide) rfl (by rw [E.1, E.2.1, E.2.2.1]; exact c9_addTrialM G Is17 ) ⟨by rw [E.2.2.2]; exact (show (rmN 106).frames + 1 ≤ (rmN 136).frames by decide), by rw [E.2.2.2]; exact (show 8 + (mNL (miB 106) + 11) + (rmN 106).locals ≤ (rmN 136).locals by decide), by rw [E.2.2.2]; exact (show 0 + (rmN 106).cells ≤ (rmN 136).cells by decide), by rw [E.2.2.2]; exact (show 0 + (rmN 106).slots ≤ (rmN 136).slots by decide)⟩ (Nat.le_of_ble_eq_true rfl) (fun vv s23 hq => ?_) (fun ee s23 hq => ?_)
          rotate_left
          · obtain ⟨Is23, Fs23, e24, hv, hrs23, hps23⟩ := hq; cases hv
          obtain ⟨Is23, Fs23, e24, hv, hrs23, hps23⟩ := hq
          cases hv
          have Gs23 := fm_ts Gs17 Fs23 (by decide) (by decide)
          have JBYA_s23 : BYA B s23 := BYA_fm Fs23 (by decide) JBYA_s17
          have JBYB_s23 : BYB B w s23 := BYB_fm Fs23 (by decide) JBYB_s17
          have ws23_0 : iI s23 0 = iI s17 0 := fm_i Fs23 (by decide)
          have b25 : (0 : Int) ≤ iI s23 9 ∧ iI s23 9 ≤ 12 := Is23.1 9
          have ws23_11 : iI s23 11 = iI s17 11 := fm_i Fs23 (by decide)
          have ws23_2 : iI s23 2 = iI s17 2 := fm_i Fs23 (by decide)
          have ws23_1 : iI s23 1 = iI s17 1 := fm_i Fs23 (by decide)
          have ws23_4 : iI s23 4 = iI s17 4 := fm_i Fs23 (by decide)
          show WS k 72 [(0, .ref (A 0)), (1, .int (Int32.ofInt w))] [.int (Int32.ofInt e24)] (Wd A dT s23) 0 0
          exact w_iret X.1 q hRt rfl (ax_d X (show cdA 136 72 = some (.ireturn, 1, 0, 0, 0) from rfl)) (Nat.zero_le _) (Nat.zero_le _) ⟨_, rfl, Is23, Gs23, Or.inl ⟨e24, rfl, hrs23, ⟨by first | exact oq_7fe879e0 ws23_0 ws17_0 hps11.1 b13.1 | omega, by first | exact g7 | omega, by first | exact g9 | omega, by first | exact g10 | omega, str_y (par_y hps17.2.2.2 (by omega)) (by have hz9 := am_c hps23; omega), mnc_at hps23 (par_p hps17.2.2.2 (by omega)) aws17_SDM (by omega) (by omega)⟩⟩⟩
        ·
          refine z_aload_n X (x := A 0) (show cdA 136 54 = some (.aload_n 0, 1, 0, 0, 0) from rfl) (List.Mem.head _) ?_
          refine s_getR X 0 (show cdA 136 55 = some (.getfield 10, 3, 11, 0, 0) from rfl) (by decide) rfl rfl ?_
          refine z_getI X 1 (show cdA 136 58 = some (.getfield 123, 3, 10, 8, 0) from rfl) (by decide) rfl rfl ?_
          have b26 : (0 : Int) ≤ iI s17 7 ∧ iI s17 7 ≤ 9 := Is17.1 7
          refine z_bipush X (show cdA 136 61 = some (.bipush 10, 2, 0, 0, 10) from rfl) ?_
          refine z_sub X (show cdA 136 63 = some (.isub, 1, 0, 0, 0) from rfl) ?_
          exact w_iret X.1 q hRt rfl (ax_d X (show cdA 136 64 = some (.ireturn, 1, 0, 0, 0) from rfl)) (Nat.zero_le _) (Nat.zero_le _) ⟨_, rfl, Is17, Gs17, Or.inl ⟨((iI s17 7) - 10), rfl, ⟨by first | exact oq_d3c9ade5 b26.1 | omega, by first | exact oq_71609f9f b26.2 | omega⟩, ⟨by first | exact oq_333640b7 ws17_0 hps11.1 b13.1 | omega, by first | exact g7 | omega, by first | exact g9 | omega, by first | exact g10 | omega, str_n (par_n hps17.2.2.2 (by omega)) (by omega) (by omega), Or.inl ⟨by omega, aws17_SDM⟩⟩⟩⟩
      ·
        exact z_throw G X E ET hXt q (st := []) (show cdA 136 21 = some (.new 108, 3, 0, 1, 0) from rfl) (by decide) (by decide) (Nat.le_of_ble_eq_true rfl) (show 0 + 1 ≤ 1 by omega) (show 0 + 6 ≤ 6 by omega) (show 0 + 1 ≤ 1 by omega) (show 0 + 6 ≤ 6 by omega) ⟨_, rfl, I, F, Or.inr ⟨0, rfl, ⟨by omega, by omega, by omega, by omega, aw0_SDM⟩⟩⟩
set_option maxRecDepth 4000 in
theorem lw_stream4 (G : GX l s0 D tys a0 dT) {B : Nat → Int} (I : Bd s) (jBYA : BYA B s) {w : Int} (p0 : rng w) : CTL l s0 D A dT 314 (rmN 314) [.ref (A 0), .int (Int32.ofInt w), .ref (A 517)] s (fun o t => Bd t ∧ Fm [11, 9, 10, 2, 4, 6, 5, 1, 3, 0, 7, 8] [15, 1, 2, 6, 1003, 1004, 1005, 1007, 1460] s t ∧ ∃ e, o = .inl (some (.int (Int32.ofInt e))) ∧ rng e ∧ ((e = 0 ∧ iI t 0 = 0 ∧ 0 ≤ w ∧ w ≤ iI s 0 ∧ w ≤ 100 ∧ STRx B w (iI s 9) (iI t 9) ∧ MNC B w s t) ∨ (e = 1 ∧ iI t 0 = iI s 0 ∧ (w < 0 ∨ iI s 0 < w ∨ 100 < w) ∧ iI t 9 = iI s 9 ∧ SDM s t))) := by
  refine ctL_of G (by decide) (Nat.le_of_ble_eq_true rfl) (by decide) (show cdA 314 0 = some (.aload_n 2, 1, 0, 0, 0) from rfl) (fun k X E ET hRt hEx q => ?_)
  show WS k 0 [(0, .ref (A 0)), (1, .int (Int32.ofInt w)), (2, .ref (A 517))] [] _ 0 0
  have F : Fm [11, 9, 10, 2, 4, 6, 5, 1, 3, 0, 7, 8] [15, 1, 2, 6, 1003, 1004, 1005, 1007, 1460] s s := fm_rf _ _ s
  have hA := swA_rf A
  have b1 : (0 : Int) ≤ iI s 0 ∧ iI s 0 ≤ 200 := I.1 0
  have b2 : (0 : Int) ≤ iI s 9 ∧ iI s 9 ≤ 12 := I.1 9
  refine z_aload_n X (x := A 517) (show cdA 314 0 = some (.aload_n 2, 1, 0, 0, 0) from rfl) (List.Mem.tail _ (List.Mem.tail _ (List.Mem.head _))) ?_
  refine z_const X (show cdA 314 1 = some (.iconst 0, 1, 0, 0, 0) from rfl) ?_
  refine z_aload_n X (x := A 0) (show cdA 314 2 = some (.aload_n 0, 1, 0, 0, 0) from rfl) (List.Mem.head _) ?_
  refine z_load_n X (x := w) (show cdA 314 3 = some (.iload_n 1, 1, 0, 0, 0) from rfl) (List.Mem.tail _ (List.Mem.head _)) ?_
  refine z_callV X 0 (rm := rmN 136) (As := [.int (Int32.ofInt w)]) (st := [.int (Int32.ofInt 0), .ref (A 517)]) (show cdA 314 4 = some (.invokevirtual 7, 3, 136, 0, 0) from rfl) rfl (by decide) rfl (by rw [E.1, E.2.1, E.2.2.1]; exact cs_stream4 G I jBYA (by omega)) ⟨by rw [E.2.2.2]; exact (show (rmN 136).frames + 1 ≤ (rmN 314).frames by decide), by rw [E.2.2.2]; exact (show 8 + (mNL (miB 136) + 11) + (rmN 136).locals ≤ (rmN 314).locals by decide), by rw [E.2.2.2]; exact (show 0 + (rmN 136).cells ≤ (rmN 314).cells by decide), by rw [E.2.2.2]; exact (show 0 + (rmN 136).slots ≤ (rmN 314).slots by decide)⟩ (Nat.le_of_ble_eq_true rfl) (fun vv s3 hq => ?_) (fun ee s3 hq => ?_)
  rotate_left
  · obtain ⟨Is3, Fs3, (⟨e4, hv, hrs3, hps3⟩ | ⟨xx, hv, hps3⟩)⟩ := hq
    · cases hv
    · cases hv
      rcases (show xx = 0 by omega) with gx
      ·
        subst gx
        have Gs3 := fm_ts F Fs3 (by decide) (by decide)
        have b5 : (0 : Int) ≤ iI s3 0 ∧ iI s3 0 ≤ 200 := Is3.1 0
        have b6 : (0 : Int) ≤ iI s3 9 ∧ iI s3 9 ≤ 12 := Is3.1 9
        refine (hEx 4 0).2 12 rfl _ _ _ _ _ (fun q1 => ?_)
        show WS k 12 [(0, .ref (A 0)), (1, .int (Int32.ofInt w)), (2, .ref (A 517))] [.ref q1] (Wd A dT s3) 1 6
        refine z_astore_n X (lv' := [(3, .ref q1), (0, .ref (A 0)), (1, .int (Int32.ofInt w)), (2, .ref (A 517))]) (show cdA 314 12 = some (.astore_n 3, 1, 0, 0, 0) from rfl) (by decide) (fun _ h => h) ?_
        refine z_const X (show cdA 314 13 = some (.iconst 1, 1, 0, 0, 0) from rfl) ?_
        exact w_iret X.1 q hRt rfl (ax_d X (show cdA 314 14 = some (.ireturn, 1, 0, 0, 0) from rfl)) (show 1 ≤ 1 by omega) (show 6 ≤ 6 by omega) ⟨A, _, hA, rfl, Is3, Gs3, 1, rfl, (by decide), Or.inr ⟨by decide, by omega, by omega, by omega, hps3.2.2.2.2⟩⟩
  obtain ⟨Is3, Fs3, (⟨e4, hv, hrs3, hps3⟩ | ⟨xx, hv, hps3⟩)⟩ := hq
  rotate_left
  · cases hv
  cases hv
  have Gs3 := fm_ts F Fs3 (by decide) (by decide)
  have b7 : (0 : Int) ≤ iI s3 0 ∧ iI s3 0 ≤ 200 := Is3.1 0
  have b8 : (0 : Int) ≤ iI s3 9 ∧ iI s3 9 ≤ 12 := Is3.1 9
  show WS k 7 [(0, .ref (A 0)), (1, .int (Int32.ofInt w)), (2, .ref (A 517))] [.int (Int32.ofInt e4), .int (Int32.ofInt 0), .ref (A 517)] (Wd A dT s3) 1 6
  refine w_i2l X.1 (ax_d X (show cdA 314 7 = some (.i2l, 1, 0, 0, 0) from rfl)) ?_
  refine z_last X 517 (show cdA 314 8 = some (.lastore, 1, 0, 0, 0) from rfl) (by decide) rfl (by omega) (show 0 < 1 by omega) (by decide) ?_
  obtain ⟨s9, hs9⟩ : ∃ x0, x0 = uD s3 460 (0 : Int).toNat (Int32.ofInt e4).toInt64 := ⟨_, rfl⟩
  rw [← hs9]
  have Is9 : Bd s9 := by rw [hs9]; exact bd_D Is3
  have Fs9 : Fm [11, 9, 10, 2, 4, 6, 5, 1, 3, 0, 7, 8] [15, 1, 2, 6, 1003, 1004, 1005, 1007, 1460] s s9 := by rw [hs9]; exact fm_D Gs3 (show 460 + 1000 ∈ _ by decide)
  have ws9_0 : iI s9 0 = iI s3 0 := by rw [hs9]; rfl
  have ws9_9 : iI s9 9 = iI s3 9 := by rw [hs9]; rfl
  have aws9_SDM : SDM s3 s9 := by rw [hs9]; exact sdm_D (by decide) (sdm_rf (s := s3))
  have oos9 : iO s9 = e4 := by rw [hs9]; exact iO_u (by omega)
  refine z_goto X (t := 15) (show cdA 314 9 = some (.goto 6, 3, 0, 0, 0) from rfl) (by decide) ?_
  refine z_const X (show cdA 314 15 = some (.iconst 0, 1, 0, 0, 0) from rfl) ?_
  exact w_iret X.1 q hRt rfl (ax_d X (show cdA 314 16 = some (.ireturn, 1, 0, 0, 0) from rfl)) (show 1 ≤ 1 by omega) (show 6 ≤ 6 by omega) ⟨A, _, hA, rfl, Is9, Fs9, 0, rfl, (by decide), Or.inl ⟨by decide, by omega, by omega, by omega, by omega, by rw [show iI s9 9 = iI s3 9 by omega]; exact hps3.2.2.2.2.1, mnc_sam hps3.2.2.2.2.2 aws9_SDM (by omega)⟩⟩
set_option maxRecDepth 4000 in
theorem c9_comesToM (G : GX l s0 D tys a0 dT) (I : Bd s) {x y : Int} (p0 : 0 ≤ x ∧ x ≤ 11) (p1 : 0 ≤ y ∧ y ≤ 127) : CT l s0 D A dT 123 (rmN 123) [.ref (A 3), .int (Int32.ofInt x), .int (Int32.ofInt y)] s (fun o t => s = t ∧ ∃ e, o = .inl (some (.int (Int32.ofInt e))) ∧ rng e ∧ ((e = 1 ∧ bJ (gD s 3 (x * 2 + y / 64).toNat) (y % 64).toNat) ∨ (e = 0 ∧ ¬ bJ (gD s 3 (x * 2 + y / 64).toNat) (y % 64).toNat))) := by
  refine ct_ofX G (by decide) (Nat.le_of_ble_eq_true rfl) (fun k X E ET hRt hXt q => ?_)
  show WS k 0 [(0, .ref (A 3)), (1, .int (Int32.ofInt x)), (2, .int (Int32.ofInt y))] [] _ 0 0
  have F : Fm [] [] s s := fm_rf _ _ s
  refine z_aload_n X (x := A 3) (show cdA 123 0 = some (.aload_n 0, 1, 0, 0, 0) from rfl) (List.Mem.head _) ?_
  refine s_getR X 3 (show cdA 123 1 = some (.getfield 18, 3, 9, 3, 0) from rfl) (by decide) rfl rfl ?_
  refine z_load_n X (x := x) (show cdA 123 4 = some (.iload_n 1, 1, 0, 0, 0) from rfl) (List.Mem.tail _ (List.Mem.head _)) ?_
  refine z_const X (show cdA 123 5 = some (.iconst 2, 1, 0, 0, 0) from rfl) ?_
  refine z_mul X (show cdA 123 6 = some (.imul, 1, 0, 0, 0) from rfl) ?_
  refine z_load_n X (x := y) (show cdA 123 7 = some (.iload_n 2, 1, 0, 0, 0) from rfl) (List.Mem.tail _ (List.Mem.tail _ (List.Mem.head _))) ?_
  refine z_bipush X (show cdA 123 8 = some (.bipush 64, 2, 0, 0, 64) from rfl) ?_
  refine z_quot X (show cdA 123 10 = some (.idiv, 1, 0, 0, 0) from rfl) (by first | exact p1.1 | omega) ⟨by first | exact oq_fa4e5087 p1.1 | omega, by first | exact oq_07d346ce p1.2 | omega⟩ (by decide) (by decide) ?_
  refine z_add X (show cdA 123 11 = some (.iadd, 1, 0, 0, 0) from rfl) ?_
  refine z_lalE X 6 (show cdA 123 12 = some (.laload, 1, 0, 0, 0) from rfl) (by decide) rfl (by first | exact oq_c0bd8137 p1.1 p0.1 | omega) (show ((x * 2) + (y / 64)) < 24 by first | exact oq_c80b6473 p1.2 p0.2 | omega) (by decide) ?_
  refine z_load_n X (x := y) (show cdA 123 13 = some (.iload_n 2, 1, 0, 0, 0) from rfl) (List.Mem.tail _ (List.Mem.tail _ (List.Mem.head _))) ?_
  refine z_bipush X (show cdA 123 14 = some (.bipush 63, 2, 0, 0, 63) from rfl) ?_
  refine z_and63 X (show cdA 123 16 = some (.iand, 1, 0, 0, 0) from rfl) (by omega) ?_
  refine z_jushr X (show cdA 123 17 = some (.lushr, 1, 0, 0, 0) from rfl) ?_
  refine w_lconst X.1 (ax_d X (show cdA 123 18 = some (.lconst 1, 1, 0, 0, 0) from rfl)) (z := (1 : Int64)) (by decide) ?_
  refine w_land X.1 (ax_d X (show cdA 123 19 = some (.land, 1, 0, 0, 0) from rfl)) ?_
  refine w_lconst X.1 (ax_d X (show cdA 123 20 = some (.lconst 0, 1, 0, 0, 0) from rfl)) (z := (0 : Int64)) (by decide) ?_
  refine z_jcmp X (show cdA 123 21 = some (.lcmp, 1, 0, 0, 0) from rfl) (fun z1 => ?_) (fun z1 c2 hc2 ic2 => ?_)
  ·
    refine z_if_eq X (t := 29) (show cdA 123 22 = some (.ifCond .eq 7, 3, 0, 0, 0) from rfl) (by decide) (by decide) (fun g3 => ?_) (fun g3 => ?_)
    ·
      refine z_const X (show cdA 123 29 = some (.iconst 0, 1, 0, 0, 0) from rfl) ?_
      exact w_iret X.1 q hRt (nar_ret (by first | exact Or.inl (by decide) | omega)) (ax_d X (show cdA 123 30 = some (.ireturn, 1, 0, 0, 0) from rfl)) (Nat.zero_le _) (Nat.zero_le _) ⟨_, rfl, rfl, 0, rfl, (by decide), Or.inr ⟨rfl, (jb_0 (by omega)).mp z1⟩⟩
    ·
      exfalso
      omega
  ·
    refine z_if_eq X (t := 29) (show cdA 123 22 = some (.ifCond .eq 7, 3, 0, 0, 0) from rfl) (by decide) ⟨by omega, by omega⟩ (fun g4 => ?_) (fun g4 => ?_)
    ·
      refine z_const X (show cdA 123 29 = some (.iconst 0, 1, 0, 0, 0) from rfl) ?_
      exact w_iret X.1 q hRt (nar_ret (by first | exact Or.inl (by decide) | omega)) (ax_d X (show cdA 123 30 = some (.ireturn, 1, 0, 0, 0) from rfl)) (Nat.zero_le _) (Nat.zero_le _) ⟨_, rfl, rfl, 0, rfl, (by decide), by omega⟩
    ·
      refine z_const X (show cdA 123 25 = some (.iconst 1, 1, 0, 0, 0) from rfl) ?_
      refine z_goto X (t := 30) (show cdA 123 26 = some (.goto 4, 3, 0, 0, 0) from rfl) (by decide) ?_
      exact w_iret X.1 q hRt (nar_ret (by first | exact Or.inr (by decide) | omega)) (ax_d X (show cdA 123 30 = some (.ireturn, 1, 0, 0, 0) from rfl)) (Nat.zero_le _) (Nat.zero_le _) ⟨_, rfl, rfl, 1, rfl, (by decide), Or.inl ⟨rfl, Classical.byContradiction (fun q => z1 ((jb_0 (by omega)).mpr q))⟩⟩
set_option maxRecDepth 4000 in
theorem c9_countsAtM (G : GX l s0 D tys a0 dT) (I : Bd s) (jQLJ : QLJ s) {y : Int} (p0 : 0 ≤ y ∧ y ≤ 127) : CT l s0 D A dT 121 (rmN 121) [.ref (A 3), .int (Int32.ofInt y)] s (fun o t => Bd t ∧ Fm [] [] s t ∧ ∃ e, o = .inl (some (.int (Int32.ofInt e))) ∧ rng e ∧ (e = sqn (QG s y) (iI s 9).toNat)) := by
  refine ct_ofX G (by decide) (Nat.le_of_ble_eq_true rfl) (fun k X E ET hRt hXt q => ?_)
  show WS k 0 [(0, .ref (A 3)), (1, .int (Int32.ofInt y))] [] _ 0 0
  have F : Fm [] [] s s := fm_rf _ _ s
  have b1 : (0 : Int) ≤ iI s 9 ∧ iI s 9 ≤ 12 := I.1 9
  have L4 : ∀ (n : Nat) (t : PS) (yv sm0 c : Int), Bd t → Fm [] [] s t → QLJ t → (sm0 = sqn (QG s y) (c).toNat) → ((yv = y ∧ 0 ≤ yv ∧ yv ≤ 127) ∧ 0 ≤ sm0 ∧ sm0 ≤ 1200 * c ∧ 0 ≤ c ∧ c ≤ iI s 9 ∧ iI t 9 = iI s 9) → (12 - c : Int).toNat < n → (∀ (t' : PS) (sm0' c' : Int), Bd t' → Fm [] [] s t' → QLJ t' → (sm0' = sqn (QG s y) (c').toNat) → (rng sm0' ∧ c' = iI s 9) → WS k 36 [(0, .ref (A 3)), (1, .int (Int32.ofInt yv)), (2, .int (Int32.ofInt sm0')), (3, .int (Int32.ofInt c'))] [] (Wd A dT t') 0 0) → WS k 4 [(0, .ref (A 3)), (1, .int (Int32.ofInt yv)), (2, .int (Int32.ofInt sm0)), (3, .int (Int32.ofInt c))] [] (Wd A dT t) 0 0 := by
    intro n
    induction n with
    | zero =>
      intro t yv sm0 c I F jjQLJ hq hi hm kx
      exact absurd hm (Nat.not_lt_zero _)
    | succ n ih =>
      intro t yv sm0 c I F jjQLJ hq hi hm kx
      have b1001 : (0 : Int) ≤ iI t 9 ∧ iI t 9 ≤ 12 := I.1 9
      refine z_load_n X (x := c) (show cdA 121 4 = some (.iload_n 3, 1, 0, 0, 0) from rfl) (List.Mem.tail _ (List.Mem.tail _ (List.Mem.tail _ (List.Mem.head _)))) ?_
      refine z_aload_n X (x := A 3) (show cdA 121 5 = some (.aload_n 0, 1, 0, 0, 0) from rfl) (List.Mem.head _) ?_
      refine z_getI X 3 (show cdA 121 6 = some (.getfield 99, 3, 9, 0, 0) from rfl) (by decide) rfl rfl ?_
      have b1002 : (0 : Int) ≤ iI t 9 ∧ iI t 9 ≤ 12 := I.1 9
      refine z_icmp_ge X (t := 36) (show cdA 121 9 = some (.if_icmp .ge 27, 3, 3, 0, 0) from rfl) (by decide) ⟨by first | exact oq_fa4e5087 hi.2.2.2.1 | omega, by first | exact oq_39d2cc6e hi.2.2.2.2.1 b1.2 | omega⟩ (rng_to _) (fun g1003 => ?_) (fun g1003 => ?_)
      ·
        refine WS_lv (lv := [(0, .ref (A 3)), (1, .int (Int32.ofInt yv)), (2, .int (Int32.ofInt sm0)), (3, .int (Int32.ofInt c))]) (List.forall_mem_cons.mpr ⟨(List.Mem.head _), (List.forall_mem_cons.mpr ⟨(List.Mem.tail _ (List.Mem.head _)), (List.forall_mem_cons.mpr ⟨(List.Mem.tail _ (List.Mem.tail _ (List.Mem.head _))), (List.forall_mem_cons.mpr ⟨(List.Mem.tail _ (List.Mem.tail _ (List.Mem.tail _ (List.Mem.head _)))), (fun q h => absurd h List.not_mem_nil)⟩)⟩)⟩)⟩) ?_
        exact kx _ sm0 c I F jjQLJ hq (by first | exact ⟨And.intro (oq_fa4e5087 hi.2.1) (oq_7f82769f hi.2.2.1 hi.2.2.2.2.1 b1.2), oq_dae09544 hi.2.2.2.2.1 hi.2.2.2.2.2 g1003⟩ | omega)
      ·
        refine z_aload_n X (x := A 3) (show cdA 121 12 = some (.aload_n 0, 1, 0, 0, 0) from rfl) (List.Mem.head _) ?_
        refine z_load_n X (x := c) (show cdA 121 13 = some (.iload_n 3, 1, 0, 0, 0) from rfl) (List.Mem.tail _ (List.Mem.tail _ (List.Mem.tail _ (List.Mem.head _)))) ?_
        refine z_load_n X (x := yv) (show cdA 121 14 = some (.iload_n 1, 1, 0, 0, 0) from rfl) (List.Mem.tail _ (List.Mem.head _)) ?_
        refine z_callV X 3 (rm := rmN 123) (As := [.int (Int32.ofInt c), .int (Int32.ofInt yv)]) (st := []) (show cdA 121 15 = some (.invokevirtual 156, 3, 123, 0, 0) from rfl) rfl (by decide) rfl (by rw [E.1, E.2.1, E.2.2.1]; exact c9_comesToM G I (by first | exact ⟨hi.2.2.2.1, oq_e4d7f3c5 g1003 b1002.2⟩ | omega) (by first | exact ⟨hi.1.2.1, hi.1.2.2⟩ | omega)) ⟨by rw [E.2.2.2]; exact (show (rmN 123).frames + 1 ≤ (rmN 121).frames by decide), by rw [E.2.2.2]; exact (show 8 + (mNL (miB 123) + 11) + (rmN 123).locals ≤ (rmN 121).locals by decide), by rw [E.2.2.2]; exact (show 0 + (rmN 123).cells ≤ (rmN 121).cells by decide), by rw [E.2.2.2]; exact (show 0 + (rmN 123).slots ≤ (rmN 121).slots by decide)⟩ (Nat.le_of_ble_eq_true rfl) (fun vv s1004 hq => ?_) (fun ee s1004 hq => ?_)
        rotate_left
        · obtain ⟨rfl, e1005, hv, hrs1004, hps1004⟩ := hq; cases hv
        obtain ⟨rfl, e1005, hv, hrs1004, hps1004⟩ := hq
        cases hv
        show WS k 18 [(0, .ref (A 3)), (1, .int (Int32.ofInt yv)), (2, .int (Int32.ofInt sm0)), (3, .int (Int32.ofInt c))] [.int (Int32.ofInt e1005)] (Wd A dT t) 0 0
        refine z_if_eq X (t := 30) (show cdA 121 18 = some (.ifCond .eq 12, 3, 0, 0, 0) from rfl) (by decide) hrs1004 (fun g1006 => ?_) (fun g1006 => ?_)
        ·
          refine z_inc X (x := c) (lv' := [(3, .int (Int32.ofInt (c + 1))), (0, .ref (A 3)), (1, .int (Int32.ofInt yv)), (2, .int (Int32.ofInt sm0))]) (show cdA 121 30 = some (.iinc 3 1, 3, 0, 0, 0) from rfl) (by decide) (List.Mem.tail _ (List.Mem.tail _ (List.Mem.tail _ (List.Mem.head _)))) (fun _ h => h) ?_
          refine z_goto X (t := 4) (show cdA 121 33 = some (.goto (-29), 3, 0, 0, 0) from rfl) (by decide) ?_
          refine WS_lv (lv := [(0, .ref (A 3)), (1, .int (Int32.ofInt yv)), (2, .int (Int32.ofInt sm0)), (3, .int (Int32.ofInt (c + 1)))]) (List.forall_mem_cons.mpr ⟨(List.Mem.tail _ (List.Mem.head _)), (List.forall_mem_cons.mpr ⟨(List.Mem.tail _ (List.Mem.tail _ (List.Mem.head _))), (List.forall_mem_cons.mpr ⟨(List.Mem.tail _ (List.Mem.tail _ (List.Mem.tail _ (List.Mem.head _)))), (List.forall_mem_cons.mpr ⟨(List.Mem.head _), (fun q h => absurd h List.not_mem_nil)⟩)⟩)⟩)⟩) ?_
          exact ih _ yv sm0 (c + 1) I F jjQLJ (qs_n hq (by omega) (qg_n F ((by decide : ∀ j, j < 12 → 178 + j ∉ ([] : List Nat))) jjQLJ (or_0 (by rw [show y = yv by omega]; exact hps1004) (by omega)) (by omega) (by omega) (by omega) (by omega))) (by first | exact ⟨And.intro (hi.1.1) (And.intro (hi.1.2.1) (hi.1.2.2)), hi.2.1, oq_33d46507 hi.2.2.1, oq_54f49eb5 hi.2.2.2.1, oq_8a89b3ae g1003 hi.2.2.2.2.2, hi.2.2.2.2.2⟩ | omega) (by first | exact qk_me hm (by decide) (oq_b575e8c1 g1003 b1002.2) | omega) kx
        ·
          refine z_load_n X (x := sm0) (show cdA 121 21 = some (.iload_n 2, 1, 0, 0, 0) from rfl) (List.Mem.tail _ (List.Mem.tail _ (List.Mem.head _))) ?_
          refine z_aload_n X (x := A 3) (show cdA 121 22 = some (.aload_n 0, 1, 0, 0, 0) from rfl) (List.Mem.head _) ?_
          refine s_getR X 3 (show cdA 121 23 = some (.getfield 46, 3, 9, 13, 0) from rfl) (by decide) rfl rfl ?_
          refine z_load_n X (x := c) (show cdA 121 26 = some (.iload_n 3, 1, 0, 0, 0) from rfl) (List.Mem.tail _ (List.Mem.tail _ (List.Mem.tail _ (List.Mem.head _)))) ?_
          refine z_ald X 15 (show cdA 121 27 = some (.iaload, 1, 0, 0, 0) from rfl) (by decide) rfl (by first | exact hi.2.2.2.1 | omega) (show c < 12 by first | exact oq_f36e82a8 g1003 b1002.2 | omega) (by decide) ?_
          have b1007 : (0 : Int) ≤ iC t 12 (c).toNat ∧ iC t 12 (c).toNat ≤ 1200 := I.2 12 _ (show (c).toNat < 12 by first | exact oq_2dac6850 g1003 b1002.2 | omega)
          refine z_add X (show cdA 121 28 = some (.iadd, 1, 0, 0, 0) from rfl) ?_
          refine z_store_n X (lv' := [(2, .int (Int32.ofInt (sm0 + (iC t 12 (c).toNat)))), (0, .ref (A 3)), (1, .int (Int32.ofInt yv)), (3, .int (Int32.ofInt c))]) (show cdA 121 29 = some (.istore_n 2, 1, 0, 0, 0) from rfl) (by decide) (fun _ h => h) ?_
          refine z_inc X (x := c) (lv' := [(3, .int (Int32.ofInt (c + 1))), (2, .int (Int32.ofInt (sm0 + (iC t 12 (c).toNat)))), (0, .ref (A 3)), (1, .int (Int32.ofInt yv))]) (show cdA 121 30 = some (.iinc 3 1, 3, 0, 0, 0) from rfl) (by decide) (List.Mem.tail _ (List.Mem.tail _ (List.Mem.tail _ (List.Mem.head _)))) (fun _ h => h) ?_
          refine z_goto X (t := 4) (show cdA 121 33 = some (.goto (-29), 3, 0, 0, 0) from rfl) (by decide) ?_
          refine WS_lv (lv := [(0, .ref (A 3)), (1, .int (Int32.ofInt yv)), (2, .int (Int32.ofInt (sm0 + (iC t 12 (c).toNat)))), (3, .int (Int32.ofInt (c + 1)))]) (List.forall_mem_cons.mpr ⟨(List.Mem.tail _ (List.Mem.tail _ (List.Mem.head _))), (List.forall_mem_cons.mpr ⟨(List.Mem.tail _ (List.Mem.tail _ (List.Mem.tail _ (List.Mem.head _)))), (List.forall_mem_cons.mpr ⟨(List.Mem.tail _ (List.Mem.head _)), (List.forall_mem_cons.mpr ⟨(List.Mem.head _), (fun q h => absurd h List.not_mem_nil)⟩)⟩)⟩)⟩) ?_
          exact ih _ yv (sm0 + (iC t 12 (c).toNat)) (c + 1) I F jjQLJ (qs_y hq (by omega) (by rw [qg_y F ((by decide : ∀ j, j < 12 → 178 + j ∉ ([] : List Nat))) jjQLJ (or_1 (by rw [show y = yv by omega]; exact hps1004) (by omega)) (by omega) (by omega) (by omega) (by omega)]; exact (sam_fm F (by decide) : SAM 12 s t) _)) (by first | exact ⟨And.intro (hi.1.1) (And.intro (hi.1.2.1) (hi.1.2.2)), oq_dd29f52d hi.2.1 b1007.1, oq_caa626b0 hi.2.2.1 b1007.2, oq_54f49eb5 hi.2.2.2.1, oq_8a89b3ae g1003 hi.2.2.2.2.2, hi.2.2.2.2.2⟩ | omega) (by first | exact qk_me hm (by decide) (oq_b575e8c1 g1003 b1002.2) | omega) kx
  refine z_const X (show cdA 121 0 = some (.iconst 0, 1, 0, 0, 0) from rfl) ?_
  refine z_store_n X (lv' := [(2, .int (Int32.ofInt 0)), (0, .ref (A 3)), (1, .int (Int32.ofInt y))]) (show cdA 121 1 = some (.istore_n 2, 1, 0, 0, 0) from rfl) (by decide) (fun _ h => h) ?_
  refine z_const X (show cdA 121 2 = some (.iconst 0, 1, 0, 0, 0) from rfl) ?_
  refine z_store_n X (lv' := [(3, .int (Int32.ofInt 0)), (2, .int (Int32.ofInt 0)), (0, .ref (A 3)), (1, .int (Int32.ofInt y))]) (show cdA 121 3 = some (.istore_n 3, 1, 0, 0, 0) from rfl) (by decide) (fun _ h => h) ?_
  refine WS_lv (lv := [(0, .ref (A 3)), (1, .int (Int32.ofInt y)), (2, .int (Int32.ofInt 0)), (3, .int (Int32.ofInt 0))]) (List.forall_mem_cons.mpr ⟨(List.Mem.tail _ (List.Mem.tail _ (List.Mem.head _))), (List.forall_mem_cons.mpr ⟨(List.Mem.tail _ (List.Mem.tail _ (List.Mem.tail _ (List.Mem.head _)))), (List.forall_mem_cons.mpr ⟨(List.Mem.tail _ (List.Mem.head _)), (List.forall_mem_cons.mpr ⟨(List.Mem.head _), (fun q h => absurd h List.not_mem_nil)⟩)⟩)⟩)⟩) ?_
  refine L4 ((12 - 0 : Int).toNat + 1) s y 0 0 I F jQLJ rfl (by first | exact ⟨And.intro (by decide) (And.intro (p0.1) (p0.2)), by decide, by decide, by decide, b1.1, by decide⟩ | omega) (Nat.lt_succ_self _) ?_
  intro s2 x3 x4 Is2 Fs2 JQLJ_s2 Qs2 hs2
  have b5 : (0 : Int) ≤ iI s2 9 ∧ iI s2 9 ≤ 12 := Is2.1 9
  refine z_load_n X (x := x3) (show cdA 121 36 = some (.iload_n 2, 1, 0, 0, 0) from rfl) (List.Mem.tail _ (List.Mem.tail _ (List.Mem.head _))) ?_
  exact w_iret X.1 q hRt rfl (ax_d X (show cdA 121 37 = some (.ireturn, 1, 0, 0, 0) from rfl)) (Nat.zero_le _) (Nat.zero_le _) ⟨_, rfl, Is2, Fs2, x3, rfl, ⟨by first | exact hs2.1.1 | omega, by first | exact hs2.1.2 | omega⟩, (by rw [show iI s 9 = x4 by omega]; exact Qs2)⟩
set_option maxRecDepth 4000 in
theorem cs_needCellQ (G : GX l s0 D tys a0 dT) (I : Bd s) {v : Int} (p0 : rng v) : CT l s0 D A dT 181 (rmN 181) [.ref (A 0), .int (Int32.ofInt v)] s (fun o t => Bd t ∧ Fm [] [] s t ∧ ((o = .inl none ∧ (0 ≤ v ∧ v ≤ 127)) ∨ ∃ x : Nat, o = .inr (exN x) ∧ (x = 2 ∧ (v < 0 ∨ 127 < v)))) := by
  refine ct_ofX G (by decide) (Nat.le_of_ble_eq_true rfl) (fun k X E ET hRt hXt q => ?_)
  show WS k 0 [(0, .ref (A 0)), (1, .int (Int32.ofInt v))] [] _ 0 0
  have F : Fm [] [] s s := fm_rf _ _ s
  refine z_load_n X (x := v) (show cdA 181 0 = some (.iload_n 1, 1, 0, 0, 0) from rfl) (List.Mem.tail _ (List.Mem.head _)) ?_
  refine z_if_lt X (t := 11) (show cdA 181 1 = some (.ifCond .lt 10, 3, 2, 0, 0) from rfl) (by decide) ⟨by first | exact p0.1 | omega, by first | exact p0.2 | omega⟩ (fun g1 => ?_) (fun g1 => ?_)
  ·
    exact z_throw G X E ET hXt q (st := []) (show cdA 181 11 = some (.new 309, 3, 2, 2, 0) from rfl) (by decide) (by decide) (Nat.le_of_ble_eq_true rfl) (show 0 + 1 ≤ 1 by omega) (show 0 + 6 ≤ 6 by omega) (show 0 + 1 ≤ 1 by omega) (show 0 + 6 ≤ 6 by omega) ⟨_, rfl, I, F, Or.inr ⟨2, rfl, by omega⟩⟩
  ·
    refine z_load_n X (x := v) (show cdA 181 4 = some (.iload_n 1, 1, 0, 0, 0) from rfl) (List.Mem.tail _ (List.Mem.head _)) ?_
    refine z_sipush X (show cdA 181 5 = some (.sipush 128, 3, 0, 0, 128) from rfl) ?_
    refine z_icmp_lt X (t := 22) (show cdA 181 8 = some (.if_icmp .lt 14, 3, 2, 0, 0) from rfl) (by decide) ⟨by first | exact p0.1 | omega, by first | exact p0.2 | omega⟩ (by decide) (fun g2 => ?_) (fun g2 => ?_)
    ·
      exact w_vret X.1 q hRt (ax_d X (show cdA 181 22 = some (.return_, 1, 0, 0, 0) from rfl)) (Nat.zero_le _) (Nat.zero_le _) ⟨_, rfl, I, F, Or.inl ⟨rfl, by first | exact ⟨g1, oq_04367f15 g2⟩ | omega⟩⟩
    ·
      exact z_throw G X E ET hXt q (st := []) (show cdA 181 11 = some (.new 309, 3, 2, 2, 0) from rfl) (by decide) (by decide) (Nat.le_of_ble_eq_true rfl) (show 0 + 1 ≤ 1 by omega) (show 0 + 6 ≤ 6 by omega) (show 0 + 1 ≤ 1 by omega) (show 0 + 6 ≤ 6 by omega) ⟨_, rfl, I, F, Or.inr ⟨2, rfl, by omega⟩⟩
set_option maxRecDepth 4000 in
theorem cs_quiet2 (G : GX l s0 D tys a0 dT) (I : Bd s) (jQLJ : QLJ s) {u : Int} (p0 : rng u) : CT l s0 D A dT 175 (rmN 175) [.ref (A 0), .int (Int32.ofInt u)] s (fun o t => Bd t ∧ Fm [] [] s t ∧ ((∃ e, o = .inl (some (.int (Int32.ofInt e))) ∧ rng e ∧ (0 ≤ u ∧ u ≤ 127 ∧ e = sqn (QG s u) (iI s 9).toNat)) ∨ ∃ x : Nat, o = .inr (exN x) ∧ (x = 2 ∧ (u < 0 ∨ 127 < u)))) := by
  refine ct_ofX G (by decide) (Nat.le_of_ble_eq_true rfl) (fun k X E ET hRt hXt q => ?_)
  show WS k 0 [(0, .ref (A 0)), (1, .int (Int32.ofInt u))] [] _ 0 0
  have F : Fm [] [] s s := fm_rf _ _ s
  have aw0_SWM : SWM s s := swm_rf
  have aw0_12 : SAM 12 s s := sam_rf
  have b1 : (0 : Int) ≤ iI s 9 ∧ iI s 9 ≤ 12 := I.1 9
  refine z_aload_n X (x := A 0) (show cdA 175 0 = some (.aload_n 0, 1, 0, 0, 0) from rfl) (List.Mem.head _) ?_
  refine z_load_n X (x := u) (show cdA 175 1 = some (.iload_n 1, 1, 0, 0, 0) from rfl) (List.Mem.tail _ (List.Mem.head _)) ?_
  refine z_callV X 0 (rm := rmN 181) (As := [.int (Int32.ofInt u)]) (st := []) (show cdA 175 2 = some (.invokevirtual 168, 3, 181, 0, 0) from rfl) rfl (by decide) rfl (by rw [E.1, E.2.1, E.2.2.1]; exact cs_needCellQ G I (by first | exact ⟨p0.1, p0.2⟩ | omega)) ⟨by rw [E.2.2.2]; exact (show (rmN 181).frames + 1 ≤ (rmN 175).frames by decide), by rw [E.2.2.2]; exact (show 8 + (mNL (miB 181) + 11) + (rmN 181).locals ≤ (rmN 175).locals by decide), by rw [E.2.2.2]; exact (show 0 + 1 ≤ 1 by omega), by rw [E.2.2.2]; exact (show 0 + 6 ≤ 6 by omega)⟩ (Nat.le_of_ble_eq_true rfl) (fun vv s2 hq => ?_) (fun ee s2 hq => ?_)
  rotate_left
  · obtain ⟨Is2, Fs2, (⟨hv, hps2⟩ | ⟨xx, hv, hps2⟩)⟩ := hq
    · cases hv
    · cases hv
      have Gs2 := fm_ts F Fs2 (by decide) (by decide)
      have JQLJ_s2 : QLJ s2 := QLJ_fm Fs2 (by decide +kernel) jQLJ
      have ws2_9 : iI s2 9 = iI s 9 := fm_i Fs2 (by decide)
      have aws2_SWM : SWM s s2 := swm_ts aw0_SWM (swm_fm Fs2 (by decide))
      have aws2_12 : SAM 12 s s2 := sam_ts aw0_12 (sam_fm Fs2 (by decide))
      exact x_out X.1 q (fun x hx => (hXt x hx).elim) (show 1 ≤ 1 by omega) (show 6 ≤ 6 by omega) ⟨_, rfl, Is2, Gs2, Or.inr ⟨xx, rfl, by omega⟩⟩
  obtain ⟨Is2, Fs2, (⟨hv, hps2⟩ | ⟨xx, hv, hps2⟩)⟩ := hq
  rotate_left
  · cases hv
  cases hv
  have Gs2 := fm_ts F Fs2 (by decide) (by decide)
  have JQLJ_s2 : QLJ s2 := QLJ_fm Fs2 (by decide +kernel) jQLJ
  have ws2_9 : iI s2 9 = iI s 9 := fm_i Fs2 (by decide)
  have aws2_SWM : SWM s s2 := swm_ts aw0_SWM (swm_fm Fs2 (by decide))
  have aws2_12 : SAM 12 s s2 := sam_ts aw0_12 (sam_fm Fs2 (by decide))
  show WS k 5 [(0, .ref (A 0)), (1, .int (Int32.ofInt u))] [] (Wd A dT s2) 1 6
  refine z_aload_n X (x := A 0) (show cdA 175 5 = some (.aload_n 0, 1, 0, 0, 0) from rfl) (List.Mem.head _) ?_
  refine s_getR X 0 (show cdA 175 6 = some (.getfield 19, 3, 11, 1, 0) from rfl) (by decide) rfl rfl ?_
  refine z_load_n X (x := u) (show cdA 175 9 = some (.iload_n 1, 1, 0, 0, 0) from rfl) (List.Mem.tail _ (List.Mem.head _)) ?_
  refine z_callV X 3 (rm := rmN 121) (As := [.int (Int32.ofInt u)]) (st := []) (show cdA 175 10 = some (.invokevirtual 374, 3, 121, 0, 0) from rfl) rfl (by decide) rfl (by rw [E.1, E.2.1, E.2.2.1]; exact c9_countsAtM G Is2 JQLJ_s2 (by first | exact ⟨hps2.1, hps2.2⟩ | omega)) ⟨by rw [E.2.2.2]; exact (show (rmN 121).frames + 1 ≤ (rmN 175).frames by decide), by rw [E.2.2.2]; exact (show 8 + (mNL (miB 121) + 11) + (rmN 121).locals ≤ (rmN 175).locals by decide), by rw [E.2.2.2]; exact (show 1 + 0 ≤ 1 by omega), by rw [E.2.2.2]; exact (show 6 + 0 ≤ 6 by omega)⟩ (Nat.le_of_ble_eq_true rfl) (fun vv s4 hq => ?_) (fun ee s4 hq => ?_)
  rotate_left
  · obtain ⟨Is4, Fs4, e5, hv, hrs4, hps4⟩ := hq; cases hv
  obtain ⟨Is4, Fs4, e5, hv, hrs4, hps4⟩ := hq
  cases hv
  have Gs4 := fm_ts Gs2 Fs4 (by decide) (by decide)
  have JQLJ_s4 : QLJ s4 := QLJ_fm Fs4 (by decide +kernel) JQLJ_s2
  have ws4_9 : iI s4 9 = iI s2 9 := fm_i Fs4 (by decide)
  have aws4_SWM : SWM s s4 := swm_ts aws2_SWM (swm_fm Fs4 (by decide))
  have aws4_12 : SAM 12 s s4 := sam_ts aws2_12 (sam_fm Fs4 (by decide))
  show WS k 13 [(0, .ref (A 0)), (1, .int (Int32.ofInt u))] [.int (Int32.ofInt e5)] (Wd A dT s4) 1 6
  exact w_iret X.1 q hRt rfl (ax_d X (show cdA 175 13 = some (.ireturn, 1, 0, 0, 0) from rfl)) (show 1 ≤ 1 by omega) (show 6 ≤ 6 by omega) ⟨_, rfl, Is4, Gs4, Or.inl ⟨e5, rfl, hrs4, ⟨by first | exact hps2.1 | omega, by first | exact hps2.2 | omega, by rw [hps4, show iI s2 9 = iI s 9 by omega]; exact qg_sam (by omega) aws2_SWM aws2_12⟩⟩⟩
set_option maxRecDepth 4000 in
theorem lw_quiet2 (G : GX l s0 D tys a0 dT) (I : Bd s) (jQLJ : QLJ s) {u : Int} (p0 : rng u) : CTL l s0 D A dT 349 (rmN 349) [.ref (A 0), .int (Int32.ofInt u), .ref (A 517)] s (fun o t => Bd t ∧ Fm [] [1460] s t ∧ ∃ e, o = .inl (some (.int (Int32.ofInt e))) ∧ rng e ∧ ((e = 0 ∧ 0 ≤ u ∧ u ≤ 127 ∧ iO t = sqn (QG s u) (iI s 9).toNat) ∨ (e = 1 ∧ (u < 0 ∨ 127 < u)))) := by
  refine ctL_of G (by decide) (Nat.le_of_ble_eq_true rfl) (by decide) (show cdA 349 0 = some (.aload_n 2, 1, 0, 0, 0) from rfl) (fun k X E ET hRt hEx q => ?_)
  show WS k 0 [(0, .ref (A 0)), (1, .int (Int32.ofInt u)), (2, .ref (A 517))] [] _ 0 0
  have F : Fm [] [1460] s s := fm_rf _ _ s
  have hA := swA_rf A
  have b1 : (0 : Int) ≤ iI s 9 ∧ iI s 9 ≤ 12 := I.1 9
  refine z_aload_n X (x := A 517) (show cdA 349 0 = some (.aload_n 2, 1, 0, 0, 0) from rfl) (List.Mem.tail _ (List.Mem.tail _ (List.Mem.head _))) ?_
  refine z_const X (show cdA 349 1 = some (.iconst 0, 1, 0, 0, 0) from rfl) ?_
  refine z_aload_n X (x := A 0) (show cdA 349 2 = some (.aload_n 0, 1, 0, 0, 0) from rfl) (List.Mem.head _) ?_
  refine z_load_n X (x := u) (show cdA 349 3 = some (.iload_n 1, 1, 0, 0, 0) from rfl) (List.Mem.tail _ (List.Mem.head _)) ?_
  refine z_callV X 0 (rm := rmN 175) (As := [.int (Int32.ofInt u)]) (st := [.int (Int32.ofInt 0), .ref (A 517)]) (show cdA 349 4 = some (.invokevirtual 129, 3, 175, 0, 0) from rfl) rfl (by decide) rfl (by rw [E.1, E.2.1, E.2.2.1]; exact cs_quiet2 G I jQLJ (by omega)) ⟨by rw [E.2.2.2]; exact (show (rmN 175).frames + 1 ≤ (rmN 349).frames by decide), by rw [E.2.2.2]; exact (show 8 + (mNL (miB 175) + 11) + (rmN 175).locals ≤ (rmN 349).locals by decide), by rw [E.2.2.2]; exact (show 0 + (rmN 175).cells ≤ (rmN 349).cells by decide), by rw [E.2.2.2]; exact (show 0 + (rmN 175).slots ≤ (rmN 349).slots by decide)⟩ (Nat.le_of_ble_eq_true rfl) (fun vv s2 hq => ?_) (fun ee s2 hq => ?_)
  rotate_left
  · obtain ⟨Is2, Fs2, (⟨e3, hv, hrs2, hps2⟩ | ⟨xx, hv, hps2⟩)⟩ := hq
    · cases hv
    · cases hv
      rcases (show xx = 2 by omega) with gx
      ·
        subst gx
        have Gs2 := fm_ts F Fs2 (by decide) (by decide)
        have ws2_9 : iI s2 9 = iI s 9 := fm_i Fs2 (by decide)
        refine (hEx 4 2).2 12 rfl _ _ _ _ _ (fun q1 => ?_)
        show WS k 12 [(0, .ref (A 0)), (1, .int (Int32.ofInt u)), (2, .ref (A 517))] [.ref q1] (Wd A dT s2) 1 6
        refine z_astore_n X (lv' := [(3, .ref q1), (0, .ref (A 0)), (1, .int (Int32.ofInt u)), (2, .ref (A 517))]) (show cdA 349 12 = some (.astore_n 3, 1, 0, 0, 0) from rfl) (by decide) (fun _ h => h) ?_
        refine z_const X (show cdA 349 13 = some (.iconst 1, 1, 0, 0, 0) from rfl) ?_
        exact w_iret X.1 q hRt rfl (ax_d X (show cdA 349 14 = some (.ireturn, 1, 0, 0, 0) from rfl)) (show 1 ≤ 1 by omega) (show 6 ≤ 6 by omega) ⟨A, _, hA, rfl, Is2, Gs2, 1, rfl, (by decide), by omega⟩
  obtain ⟨Is2, Fs2, (⟨e3, hv, hrs2, hps2⟩ | ⟨xx, hv, hps2⟩)⟩ := hq
  rotate_left
  · cases hv
  cases hv
  have Gs2 := fm_ts F Fs2 (by decide) (by decide)
  have ws2_9 : iI s2 9 = iI s 9 := fm_i Fs2 (by decide)
  show WS k 7 [(0, .ref (A 0)), (1, .int (Int32.ofInt u)), (2, .ref (A 517))] [.int (Int32.ofInt e3), .int (Int32.ofInt 0), .ref (A 517)] (Wd A dT s2) 1 6
  refine w_i2l X.1 (ax_d X (show cdA 349 7 = some (.i2l, 1, 0, 0, 0) from rfl)) ?_
  refine z_last X 517 (show cdA 349 8 = some (.lastore, 1, 0, 0, 0) from rfl) (by decide) rfl (by omega) (show 0 < 1 by omega) (by decide) ?_
  obtain ⟨s4, hs4⟩ : ∃ x0, x0 = uD s2 460 (0 : Int).toNat (Int32.ofInt e3).toInt64 := ⟨_, rfl⟩
  rw [← hs4]
  have Is4 : Bd s4 := by rw [hs4]; exact bd_D Is2
  have Fs4 : Fm [] [1460] s s4 := by rw [hs4]; exact fm_D Gs2 (show 460 + 1000 ∈ _ by decide)
  have ws4_9 : iI s4 9 = iI s2 9 := by rw [hs4]; rfl
  have oos4 : iO s4 = e3 := by rw [hs4]; exact iO_u (by omega)
  refine z_goto X (t := 15) (show cdA 349 9 = some (.goto 6, 3, 0, 0, 0) from rfl) (by decide) ?_
  refine z_const X (show cdA 349 15 = some (.iconst 0, 1, 0, 0, 0) from rfl) ?_
  exact w_iret X.1 q hRt rfl (ax_d X (show cdA 349 16 = some (.ireturn, 1, 0, 0, 0) from rfl)) (show 1 ≤ 1 by omega) (show 6 ≤ 6 by omega) ⟨A, _, hA, rfl, Is4, Fs4, 0, rfl, (by decide), by omega⟩
set_option maxRecDepth 4000 in
theorem k_total2 (G : GX l s0 D tys a0 dT) (I : Bd s) {x : Int} (p0 : 0 ≤ x ∧ x ≤ 11) : CT l s0 D A dT 248 (rmN 248) [.ref (A 179), .int (Int32.ofInt x)] s (fun o t => Bd t ∧ Fm [] [] s t ∧ ∃ e, o = .inl (some (.int (Int32.ofInt e))) ∧ rng e ∧ (0 ≤ e ∧ e ≤ 1200 ∧ e = sqn (CMR s x) 24)) := by
  refine ct_of G (by decide) (Nat.le_of_ble_eq_true rfl) (fun k X E hRt hXt q => ?_)
  show WS k 0 [(0, .ref (A 179)), (1, .int (Int32.ofInt x))] [] _ 0 0
  have F : Fm [] [] s s := fm_rf _ _ s
  have L4 : ∀ (n : Nat) (t : PS) (xv nv c : Int), Bd t → Fm [] [] s t → (nv = sqn (CMR s x) (c).toNat) → (xv = x ∧ (0 ≤ xv ∧ xv ≤ 11) ∧ 0 ≤ nv ∧ nv ≤ 50 * c ∧ 0 ≤ c ∧ c ≤ 24) → (24 - c : Int).toNat < n → (∀ (t' : PS) (nv' c' : Int), Bd t' → Fm [] [] s t' → (nv' = sqn (CMR s x) 24) → (0 ≤ nv' ∧ nv' ≤ 1200) → WS k 27 [(0, .ref (A 179)), (1, .int (Int32.ofInt xv)), (2, .int (Int32.ofInt nv')), (3, .int (Int32.ofInt c'))] [] (Wd A dT t') 0 0) → WS k 4 [(0, .ref (A 179)), (1, .int (Int32.ofInt xv)), (2, .int (Int32.ofInt nv)), (3, .int (Int32.ofInt c))] [] (Wd A dT t) 0 0 := by
    intro n
    induction n with
    | zero =>
      intro t xv nv c I F hq hi hm kx
      exact absurd hm (Nat.not_lt_zero _)
    | succ n ih =>
      intro t xv nv c I F hq hi hm kx
      refine z_load_n X (x := c) (show cdA 248 4 = some (.iload_n 3, 1, 0, 0, 0) from rfl) (List.Mem.tail _ (List.Mem.tail _ (List.Mem.tail _ (List.Mem.head _)))) ?_
      refine z_bipush X (show cdA 248 5 = some (.bipush 24, 2, 0, 0, 24) from rfl) ?_
      refine z_icmp_ge X (t := 27) (show cdA 248 7 = some (.if_icmp .ge 20, 3, 3, 0, 0) from rfl) (by decide) ⟨by first | exact oq_fa4e5087 hi.2.2.2.2.1 | omega, by first | exact oq_5bcd337f hi.2.2.2.2.2 | omega⟩ (by decide) (fun g1001 => ?_) (fun g1001 => ?_)
      ·
        refine WS_lv (lv := [(0, .ref (A 179)), (1, .int (Int32.ofInt xv)), (2, .int (Int32.ofInt nv)), (3, .int (Int32.ofInt c))]) (List.forall_mem_cons.mpr ⟨(List.Mem.head _), (List.forall_mem_cons.mpr ⟨(List.Mem.tail _ (List.Mem.head _)), (List.forall_mem_cons.mpr ⟨(List.Mem.tail _ (List.Mem.tail _ (List.Mem.head _))), (List.forall_mem_cons.mpr ⟨(List.Mem.tail _ (List.Mem.tail _ (List.Mem.tail _ (List.Mem.head _)))), (fun q h => absurd h List.not_mem_nil)⟩)⟩)⟩)⟩) ?_
        exact kx _ nv c I F (by rw [hq, show c = 24 by omega]; rfl) (by first | exact ⟨hi.2.2.1, oq_552552b9 hi.2.2.2.1 hi.2.2.2.2.2⟩ | omega)
      ·
        refine z_load_n X (x := nv) (show cdA 248 10 = some (.iload_n 2, 1, 0, 0, 0) from rfl) (List.Mem.tail _ (List.Mem.tail _ (List.Mem.head _))) ?_
        refine z_aload_n X (x := A 179) (show cdA 248 11 = some (.aload_n 0, 1, 0, 0, 0) from rfl) (List.Mem.head _) ?_
        refine s_getR X 179 (show cdA 248 12 = some (.getfield 55, 3, 12, 30, 0) from rfl) (by decide) rfl rfl ?_
        refine z_load_n X (x := xv) (show cdA 248 15 = some (.iload_n 1, 1, 0, 0, 0) from rfl) (List.Mem.tail _ (List.Mem.head _)) ?_
        refine z_aald X rw_215 (show cdA 248 16 = some (.aaload, 1, 0, 0, 0) from rfl) (by first | exact hi.2.1.1 | omega) (show xv < 12 by first | exact oq_0ddfcfee hi.2.1.2 | omega) (by decide) ?_
        refine z_load_n X (x := c) (show cdA 248 17 = some (.iload_n 3, 1, 0, 0, 0) from rfl) (List.Mem.tail _ (List.Mem.tail _ (List.Mem.tail _ (List.Mem.head _)))) ?_
        refine z_ald2 X rw_215 (show cdA 248 18 = some (.iaload, 1, 0, 0, 0) from rfl) (show (xv : Int).toNat < 12 by first | exact oq_9c5fa447 hi.2.1.2 | omega) (by first | exact hi.2.2.2.2.1 | omega) (show c < 24 by first | exact g1001 | omega) (by decide) ?_
        have b1002 : (0 : Int) ≤ (iC t (190 + (xv : Int).toNat) (c : Int).toNat) ∧ (iC t (190 + (xv : Int).toNat) (c : Int).toNat) ≤ 50 := rw_bd rw_215 I (show (xv : Int).toNat < 12 by first | exact oq_9c5fa447 hi.2.1.2 | omega) (show (c : Int).toNat < 24 by first | exact oq_797efae6 g1001 | omega)
        refine z_add X (show cdA 248 19 = some (.iadd, 1, 0, 0, 0) from rfl) ?_
        refine z_store_n X (lv' := [(2, .int (Int32.ofInt (nv + (iC t (190 + (xv : Int).toNat) (c : Int).toNat)))), (0, .ref (A 179)), (1, .int (Int32.ofInt xv)), (3, .int (Int32.ofInt c))]) (show cdA 248 20 = some (.istore_n 2, 1, 0, 0, 0) from rfl) (by decide) (fun _ h => h) ?_
        refine z_inc X (x := c) (lv' := [(3, .int (Int32.ofInt (c + 1))), (2, .int (Int32.ofInt (nv + (iC t (190 + (xv : Int).toNat) (c : Int).toNat)))), (0, .ref (A 179)), (1, .int (Int32.ofInt xv))]) (show cdA 248 21 = some (.iinc 3 1, 3, 0, 0, 0) from rfl) (by decide) (List.Mem.tail _ (List.Mem.tail _ (List.Mem.tail _ (List.Mem.head _)))) (fun _ h => h) ?_
        refine z_goto X (t := 4) (show cdA 248 24 = some (.goto (-20), 3, 0, 0, 0) from rfl) (by decide) ?_
        refine WS_lv (lv := [(0, .ref (A 179)), (1, .int (Int32.ofInt xv)), (2, .int (Int32.ofInt (nv + (iC t (190 + (xv : Int).toNat) (c : Int).toNat)))), (3, .int (Int32.ofInt (c + 1)))]) (List.forall_mem_cons.mpr ⟨(List.Mem.tail _ (List.Mem.tail _ (List.Mem.head _))), (List.forall_mem_cons.mpr ⟨(List.Mem.tail _ (List.Mem.tail _ (List.Mem.tail _ (List.Mem.head _)))), (List.forall_mem_cons.mpr ⟨(List.Mem.tail _ (List.Mem.head _)), (List.forall_mem_cons.mpr ⟨(List.Mem.head _), (fun q h => absurd h List.not_mem_nil)⟩)⟩)⟩)⟩) ?_
        exact ih _ xv (nv + (iC t (190 + (xv : Int).toNat) (c : Int).toNat)) (c + 1) I F (qs_y hq (by omega) (by rw [show xv = x by omega]; exact fm_c F List.not_mem_nil)) (by first | exact ⟨hi.1, And.intro (hi.2.1.1) (hi.2.1.2), oq_dd29f52d hi.2.2.1 b1002.1, oq_d1fd8eeb hi.2.2.2.1 b1002.2, oq_54f49eb5 hi.2.2.2.2.1, oq_cec7cb2e g1001⟩ | omega) (by first | exact qk_me hm (by decide) (oq_ffa8317e g1001) | omega) kx
  refine z_const X (show cdA 248 0 = some (.iconst 0, 1, 0, 0, 0) from rfl) ?_
  refine z_store_n X (lv' := [(2, .int (Int32.ofInt 0)), (0, .ref (A 179)), (1, .int (Int32.ofInt x))]) (show cdA 248 1 = some (.istore_n 2, 1, 0, 0, 0) from rfl) (by decide) (fun _ h => h) ?_
  refine z_const X (show cdA 248 2 = some (.iconst 0, 1, 0, 0, 0) from rfl) ?_
  refine z_store_n X (lv' := [(3, .int (Int32.ofInt 0)), (2, .int (Int32.ofInt 0)), (0, .ref (A 179)), (1, .int (Int32.ofInt x))]) (show cdA 248 3 = some (.istore_n 3, 1, 0, 0, 0) from rfl) (by decide) (fun _ h => h) ?_
  refine WS_lv (lv := [(0, .ref (A 179)), (1, .int (Int32.ofInt x)), (2, .int (Int32.ofInt 0)), (3, .int (Int32.ofInt 0))]) (List.forall_mem_cons.mpr ⟨(List.Mem.tail _ (List.Mem.tail _ (List.Mem.head _))), (List.forall_mem_cons.mpr ⟨(List.Mem.tail _ (List.Mem.tail _ (List.Mem.tail _ (List.Mem.head _)))), (List.forall_mem_cons.mpr ⟨(List.Mem.tail _ (List.Mem.head _)), (List.forall_mem_cons.mpr ⟨(List.Mem.head _), (fun q h => absurd h List.not_mem_nil)⟩)⟩)⟩)⟩) ?_
  refine L4 ((24 - 0 : Int).toNat + 1) s x 0 0 I F rfl (by first | exact ⟨by decide, And.intro (p0.1) (p0.2), by decide, by decide, by decide, by decide⟩ | omega) (Nat.lt_succ_self _) ?_
  intro s1 x2 x3 Is1 Fs1 Qs1 hs1
  refine z_load_n X (x := x2) (show cdA 248 27 = some (.iload_n 2, 1, 0, 0, 0) from rfl) (List.Mem.tail _ (List.Mem.tail _ (List.Mem.head _))) ?_
  exact w_iret X.1 q hRt rfl (ax_d X (show cdA 248 28 = some (.ireturn, 1, 0, 0, 0) from rfl)) (Nat.zero_le _) (Nat.zero_le _) ⟨_, rfl, Is1, Fs1, x2, rfl, ⟨by first | exact oq_fa4e5087 hs1.1 | omega, by first | exact oq_f918b005 hs1.2 | omega⟩, ⟨by first | exact hs1.1 | omega, by first | exact hs1.2 | omega, Qs1⟩⟩
set_option maxRecDepth 4000 in
theorem k_quiet2 (G : GX l s0 D tys a0 dT) (I : Bd s) {x : Int} (p0 : rng x) : CT l s0 D A dT 292 (rmN 292) [.ref (A 179), .int (Int32.ofInt x)] s (fun o t => Bd t ∧ Fm [73] [] s t ∧ ∃ e, o = .inl (some (.int (Int32.ofInt e))) ∧ rng e ∧ ((0 ≤ x ∧ x ≤ 127 ∧ iI t 73 = 0 ∧ e = sqn (QM s x) (iI s 90).toNat) ∨ ((x < 0 ∨ 127 < x) ∧ iI t 73 = 1))) := by
  refine ct_of G (by decide) (Nat.le_of_ble_eq_true rfl) (fun k X E hRt hXt q => ?_)
  show WS k 0 [(0, .ref (A 179)), (1, .int (Int32.ofInt x))] [] _ 0 0
  have F : Fm [73] [] s s := fm_rf _ _ s
  have b1 : (0 : Int) ≤ iI s 73 ∧ iI s 73 ≤ 3 := I.1 73
  have b2 : (0 : Int) ≤ iI s 90 ∧ iI s 90 ≤ 12 := I.1 90
  have L34 : ∀ (n : Nat) (t : PS) (xv nv c : Int), Bd t → Fm [73] [] s t → (nv = sqn (QM s x) (c).toNat) → ((xv = x ∧ 0 ≤ xv ∧ xv ≤ 127) ∧ 0 ≤ nv ∧ nv ≤ 1200 * c ∧ 0 ≤ c ∧ c ≤ iI s 90 ∧ iI t 90 = iI s 90 ∧ iI t 73 = 0) → (12 - c : Int).toNat < n → (∀ (t' : PS) (nv' c' : Int), Bd t' → Fm [73] [] s t' → (nv' = sqn (QM s x) (c').toNat) → (rng nv' ∧ (0 ≤ x ∧ x ≤ 127) ∧ c' = iI s 90 ∧ iI t' 73 = 0) → WS k 72 [(0, .ref (A 179)), (1, .int (Int32.ofInt xv)), (2, .int (Int32.ofInt nv')), (3, .int (Int32.ofInt c'))] [] (Wd A dT t') 0 0) → WS k 34 [(0, .ref (A 179)), (1, .int (Int32.ofInt xv)), (2, .int (Int32.ofInt nv)), (3, .int (Int32.ofInt c))] [] (Wd A dT t) 0 0 := by
    intro n
    induction n with
    | zero =>
      intro t xv nv c I F hq hi hm kx
      exact absurd hm (Nat.not_lt_zero _)
    | succ n ih =>
      intro t xv nv c I F hq hi hm kx
      have b1001 : (0 : Int) ≤ iI t 73 ∧ iI t 73 ≤ 3 := I.1 73
      have b1002 : (0 : Int) ≤ iI t 90 ∧ iI t 90 ≤ 12 := I.1 90
      refine z_load_n X (x := c) (show cdA 292 34 = some (.iload_n 3, 1, 0, 0, 0) from rfl) (List.Mem.tail _ (List.Mem.tail _ (List.Mem.tail _ (List.Mem.head _)))) ?_
      refine z_aload_n X (x := A 179) (show cdA 292 35 = some (.aload_n 0, 1, 0, 0, 0) from rfl) (List.Mem.head _) ?_
      refine z_getI X 179 (show cdA 292 36 = some (.getfield 233, 3, 12, 22, 0) from rfl) (by decide) rfl rfl ?_
      have b1003 : (0 : Int) ≤ iI t 90 ∧ iI t 90 ≤ 12 := I.1 90
      refine z_icmp_ge X (t := 72) (show cdA 292 39 = some (.if_icmp .ge 33, 3, 3, 0, 0) from rfl) (by decide) ⟨by first | exact oq_fa4e5087 hi.2.2.2.1 | omega, by first | exact oq_39d2cc6e hi.2.2.2.2.1 b2.2 | omega⟩ (rng_to _) (fun g1004 => ?_) (fun g1004 => ?_)
      ·
        refine WS_lv (lv := [(0, .ref (A 179)), (1, .int (Int32.ofInt xv)), (2, .int (Int32.ofInt nv)), (3, .int (Int32.ofInt c))]) (List.forall_mem_cons.mpr ⟨(List.Mem.head _), (List.forall_mem_cons.mpr ⟨(List.Mem.tail _ (List.Mem.head _)), (List.forall_mem_cons.mpr ⟨(List.Mem.tail _ (List.Mem.tail _ (List.Mem.head _))), (List.forall_mem_cons.mpr ⟨(List.Mem.tail _ (List.Mem.tail _ (List.Mem.tail _ (List.Mem.head _)))), (fun q h => absurd h List.not_mem_nil)⟩)⟩)⟩)⟩) ?_
        exact kx _ nv c I F hq (by first | exact ⟨And.intro (oq_fa4e5087 hi.2.1) (oq_7f82769f hi.2.2.1 hi.2.2.2.2.1 b2.2), And.intro (oq_151a919a hi.1.1 hi.1.2.1) (oq_b97c161b hi.1.1 hi.1.2.2), oq_dae09544 hi.2.2.2.2.1 hi.2.2.2.2.2.1 g1004, hi.2.2.2.2.2.2⟩ | omega)
      ·
        refine z_load_n X (x := nv) (show cdA 292 42 = some (.iload_n 2, 1, 0, 0, 0) from rfl) (List.Mem.tail _ (List.Mem.tail _ (List.Mem.head _))) ?_
        refine z_aload_n X (x := A 179) (show cdA 292 43 = some (.aload_n 0, 1, 0, 0, 0) from rfl) (List.Mem.head _) ?_
        refine s_getR X 179 (show cdA 292 44 = some (.getfield 52, 3, 12, 29, 0) from rfl) (by decide) rfl rfl ?_
        refine z_load_n X (x := c) (show cdA 292 47 = some (.iload_n 3, 1, 0, 0, 0) from rfl) (List.Mem.tail _ (List.Mem.tail _ (List.Mem.tail _ (List.Mem.head _)))) ?_
        refine z_aald X rw_202 (show cdA 292 48 = some (.aaload, 1, 0, 0, 0) from rfl) (by first | exact hi.2.2.2.1 | omega) (show c < 12 by first | exact oq_f36e82a8 g1004 b1003.2 | omega) (by decide) ?_
        refine z_load_n X (x := xv) (show cdA 292 49 = some (.iload_n 1, 1, 0, 0, 0) from rfl) (List.Mem.tail _ (List.Mem.head _)) ?_
        refine z_ald2 X rw_202 (show cdA 292 50 = some (.iaload, 1, 0, 0, 0) from rfl) (show (c : Int).toNat < 12 by first | exact oq_2dac6850 g1004 b1003.2 | omega) (by first | exact hi.1.2.1 | omega) (show xv < 128 by first | exact oq_31b2bf10 hi.1.2.2 | omega) (by decide) ?_
        have b1005 : ((-1) : Int) ≤ (iC t (178 + (c : Int).toNat) (xv : Int).toNat) ∧ (iC t (178 + (c : Int).toNat) (xv : Int).toNat) ≤ 23 := rw_bd rw_202 I (show (c : Int).toNat < 12 by first | exact oq_2dac6850 g1004 b1003.2 | omega) (show (xv : Int).toNat < 128 by first | exact oq_c7f4e9c1 hi.1.2.2 | omega)
        refine z_const X (show cdA 292 51 = some (.iconst (-1), 1, 0, 0, 0) from rfl) ?_
        refine z_icmp_ne X (t := 59) (show cdA 292 52 = some (.if_icmp .ne 7, 3, 1, 0, 0) from rfl) (by decide) (rng_to _) (by decide) (fun g1006 => ?_) (fun g1006 => ?_)
        ·
          refine z_aload_n X (x := A 179) (show cdA 292 59 = some (.aload_n 0, 1, 0, 0, 0) from rfl) (List.Mem.head _) ?_
          refine z_load_n X (x := c) (show cdA 292 60 = some (.iload_n 3, 1, 0, 0, 0) from rfl) (List.Mem.tail _ (List.Mem.tail _ (List.Mem.tail _ (List.Mem.head _)))) ?_
          refine z_callV X 179 (rm := rmN 248) (As := [.int (Int32.ofInt c)]) (st := [.int (Int32.ofInt nv)]) (show cdA 292 61 = some (.invokevirtual 354, 3, 248, 0, 0) from rfl) rfl (by decide) rfl (by rw [E.1, E.2.1, E.2.2.1]; exact k_total2 G I (by first | exact ⟨hi.2.2.2.1, oq_e4d7f3c5 g1004 b1003.2⟩ | omega)) ⟨by rw [E.2.2.2]; exact (show (rmN 248).frames + 1 ≤ (rmN 292).frames by decide), by rw [E.2.2.2]; exact (show 8 + (mNL (miB 248) + 11) + (rmN 248).locals ≤ (rmN 292).locals by decide), by rw [E.2.2.2]; exact (show 0 + (rmN 248).cells ≤ (rmN 292).cells by decide), by rw [E.2.2.2]; exact (show 0 + (rmN 248).slots ≤ (rmN 292).slots by decide)⟩ (Nat.le_of_ble_eq_true rfl) (fun vv s1007 hq => ?_) (fun ee s1007 hq => ?_)
          rotate_left
          · obtain ⟨Is1007, Fs1007, e1008, hv, hrs1007, hps1007⟩ := hq; cases hv
          obtain ⟨Is1007, Fs1007, e1008, hv, hrs1007, hps1007⟩ := hq
          cases hv
          have Gs1007 := fm_ts F Fs1007 (by decide) (by decide)
          have ws1007_73 : iI s1007 73 = iI t 73 := fm_i Fs1007 (by decide)
          have ws1007_90 : iI s1007 90 = iI t 90 := fm_i Fs1007 (by decide)
          show WS k 64 [(0, .ref (A 179)), (1, .int (Int32.ofInt xv)), (2, .int (Int32.ofInt nv)), (3, .int (Int32.ofInt c))] [.int (Int32.ofInt e1008), .int (Int32.ofInt nv)] (Wd A dT s1007) 0 0
          refine z_add X (show cdA 292 64 = some (.iadd, 1, 0, 0, 0) from rfl) ?_
          refine z_store_n X (lv' := [(2, .int (Int32.ofInt (nv + e1008))), (0, .ref (A 179)), (1, .int (Int32.ofInt xv)), (3, .int (Int32.ofInt c))]) (show cdA 292 65 = some (.istore_n 2, 1, 0, 0, 0) from rfl) (by decide) (fun _ h => h) ?_
          refine z_inc X (x := c) (lv' := [(3, .int (Int32.ofInt (c + 1))), (2, .int (Int32.ofInt (nv + e1008))), (0, .ref (A 179)), (1, .int (Int32.ofInt xv))]) (show cdA 292 66 = some (.iinc 3 1, 3, 0, 0, 0) from rfl) (by decide) (List.Mem.tail _ (List.Mem.tail _ (List.Mem.tail _ (List.Mem.head _)))) (fun _ h => h) ?_
          refine z_goto X (t := 34) (show cdA 292 69 = some (.goto (-35), 3, 0, 0, 0) from rfl) (by decide) ?_
          refine WS_lv (lv := [(0, .ref (A 179)), (1, .int (Int32.ofInt xv)), (2, .int (Int32.ofInt (nv + e1008))), (3, .int (Int32.ofInt (c + 1)))]) (List.forall_mem_cons.mpr ⟨(List.Mem.tail _ (List.Mem.tail _ (List.Mem.head _))), (List.forall_mem_cons.mpr ⟨(List.Mem.tail _ (List.Mem.tail _ (List.Mem.tail _ (List.Mem.head _)))), (List.forall_mem_cons.mpr ⟨(List.Mem.tail _ (List.Mem.head _)), (List.forall_mem_cons.mpr ⟨(List.Mem.head _), (fun q h => absurd h List.not_mem_nil)⟩)⟩)⟩)⟩) ?_
          exact ih _ xv (nv + e1008) (c + 1) Is1007 Gs1007 (qs_y hq (by omega) (by rw [hps1007.2.2, cmr_rows (smr_fm F (by decide)) (by omega) (by omega)]; exact (if_neg (by have z1 : iC t (178 + (c : Int).toNat) (xv : Int).toNat = iC s (178 + (c : Int).toNat) (xv : Int).toNat := fm_c F List.not_mem_nil; rw [show x = xv by omega]; omega)).symm)) (by first | exact ⟨And.intro (hi.1.1) (And.intro (hi.1.2.1) (hi.1.2.2)), oq_dd29f52d hi.2.1 hps1007.1, oq_caa626b0 hi.2.2.1 hps1007.2.1, oq_54f49eb5 hi.2.2.2.1, oq_8a89b3ae g1004 hi.2.2.2.2.2.1, oq_1aa5be9e ws1007_90 hi.2.2.2.2.2.1, oq_333640b7 ws1007_73 hi.2.2.2.2.2.2 b1001.1⟩ | omega) (by first | exact qk_me hm (by decide) (oq_b575e8c1 g1004 b1003.2) | omega) kx
        ·
          refine z_const X (show cdA 292 55 = some (.iconst 0, 1, 0, 0, 0) from rfl) ?_
          refine z_goto X (t := 64) (show cdA 292 56 = some (.goto 8, 3, 0, 0, 0) from rfl) (by decide) ?_
          refine z_add X (show cdA 292 64 = some (.iadd, 1, 0, 0, 0) from rfl) ?_
          refine z_store_n X (lv' := [(2, .int (Int32.ofInt (nv + 0))), (0, .ref (A 179)), (1, .int (Int32.ofInt xv)), (3, .int (Int32.ofInt c))]) (show cdA 292 65 = some (.istore_n 2, 1, 0, 0, 0) from rfl) (by decide) (fun _ h => h) ?_
          refine z_inc X (x := c) (lv' := [(3, .int (Int32.ofInt (c + 1))), (2, .int (Int32.ofInt (nv + 0))), (0, .ref (A 179)), (1, .int (Int32.ofInt xv))]) (show cdA 292 66 = some (.iinc 3 1, 3, 0, 0, 0) from rfl) (by decide) (List.Mem.tail _ (List.Mem.tail _ (List.Mem.tail _ (List.Mem.head _)))) (fun _ h => h) ?_
          refine z_goto X (t := 34) (show cdA 292 69 = some (.goto (-35), 3, 0, 0, 0) from rfl) (by decide) ?_
          refine WS_lv (lv := [(0, .ref (A 179)), (1, .int (Int32.ofInt xv)), (2, .int (Int32.ofInt (nv + 0))), (3, .int (Int32.ofInt (c + 1)))]) (List.forall_mem_cons.mpr ⟨(List.Mem.tail _ (List.Mem.tail _ (List.Mem.head _))), (List.forall_mem_cons.mpr ⟨(List.Mem.tail _ (List.Mem.tail _ (List.Mem.tail _ (List.Mem.head _)))), (List.forall_mem_cons.mpr ⟨(List.Mem.tail _ (List.Mem.head _)), (List.forall_mem_cons.mpr ⟨(List.Mem.head _), (fun q h => absurd h List.not_mem_nil)⟩)⟩)⟩)⟩) ?_
          exact ih _ xv (nv + 0) (c + 1) I F (qs_y hq (by omega) (if_pos (by have z1 : iC t (178 + (c : Int).toNat) (xv : Int).toNat = iC s (178 + (c : Int).toNat) (xv : Int).toNat := fm_c F List.not_mem_nil; rw [show x = xv by omega]; omega)).symm) (by first | exact ⟨And.intro (hi.1.1) (And.intro (hi.1.2.1) (hi.1.2.2)), oq_590e7a3f hi.2.1, oq_48488ccf hi.2.2.1, oq_54f49eb5 hi.2.2.2.1, oq_8a89b3ae g1004 hi.2.2.2.2.2.1, hi.2.2.2.2.2.1, hi.2.2.2.2.2.2⟩ | omega) (by first | exact qk_me hm (by decide) (oq_b575e8c1 g1004 b1003.2) | omega) kx
  refine z_aload_n X (x := A 179) (show cdA 292 0 = some (.aload_n 0, 1, 0, 0, 0) from rfl) (List.Mem.head _) ?_
  refine z_const X (show cdA 292 1 = some (.iconst 0, 1, 0, 0, 0) from rfl) ?_
  refine s_putI X 179 (show cdA 292 2 = some (.putfield 172, 3, 12, 0, 0) from rfl) (by decide) rfl rfl (by decide) rfl rfl rfl ?_
  obtain ⟨s3, hs3⟩ : ∃ x0, x0 = uI s 73 (Int32.ofInt 0) := ⟨_, rfl⟩
  rw [← hs3]
  have Is3 : Bd s3 := by rw [hs3]; exact bd_I I (show (0 : Int) ≤ 0 ∧ 0 ≤ 3 by first | exact ⟨by decide, by decide⟩ | omega) (by decide)
  have Fs3 := fm_I (x := Int32.ofInt 0) F (show 73 ∈ _ by decide)
  rw [← hs3] at Fs3
  have vs3 : iI s3 73 = 0 := by rw [hs3]; exact iI_u (by decide)
  have ws3_90 : iI s3 90 = iI s 90 := by rw [hs3]; rfl
  refine z_aload_n X (x := A 179) (show cdA 292 5 = some (.aload_n 0, 1, 0, 0, 0) from rfl) (List.Mem.head _) ?_
  refine z_load_n X (x := x) (show cdA 292 6 = some (.iload_n 1, 1, 0, 0, 0) from rfl) (List.Mem.tail _ (List.Mem.head _)) ?_
  refine z_const X (show cdA 292 7 = some (.iconst 0, 1, 0, 0, 0) from rfl) ?_
  refine z_bipush X (show cdA 292 8 = some (.bipush 127, 2, 0, 0, 127) from rfl) ?_
  refine z_callS X (rm := rmN 188) (As := [.int (Int32.ofInt x), .int (Int32.ofInt 0), .int (Int32.ofInt 127)]) (st := [.ref (A 179)]) (show cdA 292 10 = some (.invokestatic 209, 3, 188, 1, 0) from rfl) rfl (by rw [E.1, E.2.1, E.2.2.1]; exact k_in2 G Is3 (by first | exact ⟨p0.1, p0.2⟩ | omega) (by first | exact ⟨by decide, by decide⟩ | omega) (by first | exact ⟨by decide, by decide⟩ | omega)) ⟨by rw [E.2.2.2]; exact (show (rmN 188).frames + 1 ≤ (rmN 292).frames by decide), by rw [E.2.2.2]; exact (show 8 + (mNL (miB 188) + 11) + (rmN 188).locals ≤ (rmN 292).locals by decide), by rw [E.2.2.2]; exact (show 0 + (rmN 188).cells ≤ (rmN 292).cells by decide), by rw [E.2.2.2]; exact (show 0 + (rmN 188).slots ≤ (rmN 292).slots by decide)⟩ (Nat.le_of_ble_eq_true rfl) (fun vv s4 hq => ?_) (fun ee s4 hq => ?_)
  rotate_left
  · obtain ⟨rfl, e5, hv, hrs4, hps4⟩ := hq; cases hv
  obtain ⟨rfl, e5, hv, hrs4, hps4⟩ := hq
  cases hv
  show WS k 13 [(0, .ref (A 179)), (1, .int (Int32.ofInt x))] [.int (Int32.ofInt e5), .ref (A 179)] (Wd A dT s3) 0 0
  have N6 : ∀ e7 : Int, (((e5 ≠ 0) ∧ e7 = 0) ∨ ((e5 = 0) ∧ e7 = 1)) → WS k 21 [(0, .ref (A 179)), (1, .int (Int32.ofInt x))] [.int (Int32.ofInt e7), .ref (A 179)] (Wd A dT s3) 0 0 := by
    intro e7 he7
    have re7 : 0 ≤ e7 ∧ e7 ≤ 1 := by omega
    refine z_const X (show cdA 292 21 = some (.iconst 1, 1, 0, 0, 0) from rfl) ?_
    refine z_callV X 179 (rm := rmN 187) (As := [.int (Int32.ofInt e7), .int (Int32.ofInt 1)]) (st := []) (show cdA 292 22 = some (.invokevirtual 229, 3, 187, 0, 0) from rfl) rfl (by decide) rfl (by rw [E.1, E.2.1, E.2.2.1]; exact k_bad2 G Is3 (by first | exact oq_31e518ae re7.2 re7.1 | omega) (by first | exact ⟨by decide, by decide⟩ | omega)) ⟨by rw [E.2.2.2]; exact (show (rmN 187).frames + 1 ≤ (rmN 292).frames by decide), by rw [E.2.2.2]; exact (show 8 + (mNL (miB 187) + 11) + (rmN 187).locals ≤ (rmN 292).locals by decide), by rw [E.2.2.2]; exact (show 0 + (rmN 187).cells ≤ (rmN 292).cells by decide), by rw [E.2.2.2]; exact (show 0 + (rmN 187).slots ≤ (rmN 292).slots by decide)⟩ (Nat.le_of_ble_eq_true rfl) (fun vv s8 hq => ?_) (fun ee s8 hq => ?_)
    rotate_left
    · obtain ⟨Is8, Fs8, e9, hv, hrs8, hps8⟩ := hq; cases hv
    obtain ⟨Is8, Fs8, e9, hv, hrs8, hps8⟩ := hq
    cases hv
    have Gs8 := fm_ts Fs3 Fs8 (by decide) (by decide)
    have b10 : (0 : Int) ≤ iI s8 73 ∧ iI s8 73 ≤ 3 := Is8.1 73
    have ws8_90 : iI s8 90 = iI s3 90 := fm_i Fs8 (by decide)
    show WS k 25 [(0, .ref (A 179)), (1, .int (Int32.ofInt x))] [.int (Int32.ofInt e9)] (Wd A dT s8) 0 0
    refine z_if_eq X (t := 30) (show cdA 292 25 = some (.ifCond .eq 5, 3, 0, 0, 0) from rfl) (by decide) hrs8 (fun g11 => ?_) (fun g11 => ?_)
    ·
      refine z_const X (show cdA 292 30 = some (.iconst 0, 1, 0, 0, 0) from rfl) ?_
      refine z_store_n X (lv' := [(2, .int (Int32.ofInt 0)), (0, .ref (A 179)), (1, .int (Int32.ofInt x))]) (show cdA 292 31 = some (.istore_n 2, 1, 0, 0, 0) from rfl) (by decide) (fun _ h => h) ?_
      refine z_const X (show cdA 292 32 = some (.iconst 0, 1, 0, 0, 0) from rfl) ?_
      refine z_store_n X (lv' := [(3, .int (Int32.ofInt 0)), (2, .int (Int32.ofInt 0)), (0, .ref (A 179)), (1, .int (Int32.ofInt x))]) (show cdA 292 33 = some (.istore_n 3, 1, 0, 0, 0) from rfl) (by decide) (fun _ h => h) ?_
      refine WS_lv (lv := [(0, .ref (A 179)), (1, .int (Int32.ofInt x)), (2, .int (Int32.ofInt 0)), (3, .int (Int32.ofInt 0))]) (List.forall_mem_cons.mpr ⟨(List.Mem.tail _ (List.Mem.tail _ (List.Mem.head _))), (List.forall_mem_cons.mpr ⟨(List.Mem.tail _ (List.Mem.tail _ (List.Mem.tail _ (List.Mem.head _)))), (List.forall_mem_cons.mpr ⟨(List.Mem.tail _ (List.Mem.head _)), (List.forall_mem_cons.mpr ⟨(List.Mem.head _), (fun q h => absurd h List.not_mem_nil)⟩)⟩)⟩)⟩) ?_
      refine L34 ((12 - 0 : Int).toNat + 1) s8 x 0 0 Is8 Gs8 rfl (by first | exact ⟨oq_191cca89 g11 hps8 he7 hps4 vs3, by decide, by decide, by decide, b2.1, oq_1aa5be9e ws8_90 ws3_90, oq_9f99e80f g11 b10.1 hps8 vs3⟩ | omega) (Nat.lt_succ_self _) ?_
      intro s12 x13 x14 Is12 Fs12 Qs12 hs12
      have b15 : (0 : Int) ≤ iI s12 73 ∧ iI s12 73 ≤ 3 := Is12.1 73
      have b16 : (0 : Int) ≤ iI s12 90 ∧ iI s12 90 ≤ 12 := Is12.1 90
      refine z_load_n X (x := x13) (show cdA 292 72 = some (.iload_n 2, 1, 0, 0, 0) from rfl) (List.Mem.tail _ (List.Mem.tail _ (List.Mem.head _))) ?_
      exact w_iret X.1 q hRt rfl (ax_d X (show cdA 292 73 = some (.ireturn, 1, 0, 0, 0) from rfl)) (Nat.zero_le _) (Nat.zero_le _) ⟨_, rfl, Is12, Fs12, x13, rfl, ⟨by first | exact hs12.1.1 | omega, by first | exact hs12.1.2 | omega⟩, Or.inl ⟨by first | exact hs12.2.1.1 | omega, by first | exact hs12.2.1.2 | omega, by first | exact hs12.2.2.2 | omega, by rw [show iI s 90 = x14 by omega]; exact Qs12⟩⟩
    ·
      refine z_const X (show cdA 292 28 = some (.iconst 0, 1, 0, 0, 0) from rfl) ?_
      exact w_iret X.1 q hRt rfl (ax_d X (show cdA 292 29 = some (.ireturn, 1, 0, 0, 0) from rfl)) (Nat.zero_le _) (Nat.zero_le _) ⟨_, rfl, Is8, Gs8, 0, rfl, (by decide), Or.inr (by first | exact ⟨oq_2d4c9f41 g11 hps8 he7 hps4 vs3, oq_58a3c280 g11 hps8 vs3⟩ | omega)⟩
  refine z_if_ne X (t := 20) (show cdA 292 13 = some (.ifCond .ne 7, 3, 1, 0, 0) from rfl) (by decide) hrs4 (fun g17 => ?_) (fun g17 => ?_)
  ·
    refine z_const X (show cdA 292 20 = some (.iconst 0, 1, 0, 0, 0) from rfl) ?_
    exact N6 _ (Or.inl ⟨g17, rfl⟩)
  ·
    refine z_const X (show cdA 292 16 = some (.iconst 1, 1, 0, 0, 0) from rfl) ?_
    refine z_goto X (t := 21) (show cdA 292 17 = some (.goto 4, 3, 0, 0, 0) from rfl) (by decide) ?_
    exact N6 _ (Or.inr (⟨g17, rfl⟩))
end M87f
