theorem oq_cdaa5e0d {a0 a1 a2 : Int} (h0 : 0 ≤ a0) (h1 : a1 = a2) (h2 : 0 ≤ a2) : 0 ≤ ((a0 * 2) + a1) := by omega
theorem oq_a20b6461 {a0 a1 a2 a3 : Int} (h0 : a0 = a1) (h1 : a2 < a3) (h2 : a1 ≤ 1) (h3 : a3 ≤ 66) : ((a2 * 2) + a0) < 132 := by omega
theorem oq_321c4dd9 {a0 a1 : Int} (h0 : a0 = a1) (h1 : a1 ≤ 127) : (a0 : Int).toNat < 128 := by omega
theorem oq_9dd6f1c4 {a0 a1 a2 : Int} (h0 : a0 = a1) (h1 : a2 ≠ (-1)) (h2 : (-1) ≤ a2) (h3 : a2 = a1) : 0 ≤ a0 := by omega
theorem oq_c8a5794d {a0 a1 : Int} (h0 : a0 ≤ a1) (h1 : a1 ≤ 128) : a0 ≤ 128 := by omega
theorem oq_ad204de4 {a0 a1 : Int} (h0 : a0 ≠ 0) (h1 : ((a0 = 1 ∧ (0 ≤ a1 ∧ a1 ≤ 7)) ∨ (a0 = 0 ∧ (a1 < 0 ∨ 7 < a1)))) : (a1 = a1 ∧ (0 ≤ a1 ∧ a1 ≤ 7)) := by omega
theorem oq_93520411 {a0 a1 a2 : Int} (h0 : 0 ≤ a0) (h1 : ((0 = 1 ∧ (a1 = 0 ∧ (a0 = 1 ∧ a2 = 1))) ∨ ((0 = 0 ∨ a1 ≠ 0) ∧ (a0 = a1 ∧ ((a2 = 0 ∧ a1 = 0) ∨ (a2 = 1 ∧ a1 ≠ 0)))))) (h2 : a1 = 0) : a0 = 0 := by omega
theorem oq_14bb5fe5 {a0 a1 a2 a3 : Int} (h0 : a0 ≠ 0) (h1 : ((0 = 1 ∧ (a1 = 0 ∧ (a2 = 1 ∧ a0 = 1))) ∨ ((0 = 0 ∨ a1 ≠ 0) ∧ (a2 = a1 ∧ ((a0 = 0 ∧ a1 = 0) ∨ (a0 = 1 ∧ a1 ≠ 0)))))) (h2 : a1 = 0) : (a3 < 0 ∨ 7 < a3) := by omega
theorem oq_a2dc54c2 {a0 a1 a2 a3 : Int} (h0 : a0 = 0) (h1 : ((1 = 1 ∧ (a1 = 0 ∧ (a2 = 1 ∧ a0 = 1))) ∨ ((1 = 0 ∨ a1 ≠ 0) ∧ (a2 = a1 ∧ ((a0 = 0 ∧ a1 = 0) ∨ (a0 = 1 ∧ a1 ≠ 0)))))) (h2 : a1 = 0) : (a3 = a3 ∧ (0 ≤ a3 ∧ a3 ≤ 7)) := by omega
theorem oq_f4d57307 {a0 a1 a2 : Int} (h0 : a0 = 0) (h1 : 0 ≤ a1) (h2 : ((1 = 1 ∧ (a2 = 0 ∧ (a1 = 1 ∧ a0 = 1))) ∨ ((1 = 0 ∨ a2 ≠ 0) ∧ (a1 = a2 ∧ ((a0 = 0 ∧ a2 = 0) ∨ (a0 = 1 ∧ a2 ≠ 0)))))) (h3 : a2 = 0) : a1 = 0 := by omega
theorem oq_2c2fe168 {a0 a1 : Int} (h0 : a0 = 0) (h1 : ((a0 = 1 ∧ (0 ≤ a1 ∧ a1 ≤ 7)) ∨ (a0 = 0 ∧ (a1 < 0 ∨ 7 < a1)))) : (a1 < 0 ∨ 7 < a1) := by omega
/-! Crossings at an edge -/
theorem i01_p {p : Prop} : 0 < i01 p ↔ p := by
  by_cases h : p
  · rw [i01_t h]; exact ⟨fun _ => h, fun _ => by decide⟩
  · rw [i01_f h]; exact ⟨fun q => absurd q (by decide), fun q => absurd q h⟩
theorem sm_ex {f : Nat → Int} : ∀ {n : Nat}, (∀ j, j < n → 0 ≤ f j) → (0 < sm f n ↔ ∃ j, j < n ∧ 0 < f j)
  | 0, _ => ⟨fun h => absurd h (Int.lt_irrefl 0), fun ⟨j, hj, _⟩ => absurd hj (Nat.not_lt_zero _)⟩
  | n + 1, h => by
    have e : sm f (n + 1) = sm f n + f n := rfl
    have i := sm_ex (f := f) (n := n) (fun j hj => h j (by omega))
    have nn := sm_nn (f := f) (n := n) (fun j hj => h j (by omega))
    have hn := h n (by omega)
    rw [e]
    constructor
    · intro q
      by_cases c : 0 < f n
      · exact ⟨n, by omega, c⟩
      · obtain ⟨j, hj, hf⟩ := i.mp (by omega)
        exact ⟨j, by omega, hf⟩
    · rintro ⟨j, hj, hf⟩
      by_cases c : j = n
      · rw [c] at hf; omega
      · have := i.mpr ⟨j, by omega, hf⟩; omega
/-- two ways cross at a cell -/
def XPT (w : WyS) (c : Int) (a b : Nat) : Prop := ∃ k : Nat, (k : Int) < w.2 a ∧ w.1 a k = c ∧ mtP (w.1 a) (w.1 b) (w.2 a) (w.2 b) k
def XCT (w : WyS) (n : Nat) (c : Int) : Prop := ∃ a b : Nat, a < b ∧ b < n ∧ XPT w c a b
theorem gokc2 {f g : Nat → Int} {z : Int} {k : Nat} (h : ∀ k : Nat, (k : Int) < z → f k = g k) (hk : (k : Int) < z) : goK f z k = goK g z k := by
  unfold goK
  by_cases c1 : z = 1
  · rw [if_pos c1, if_pos c1]
  · rw [if_neg c1, if_neg c1]
    by_cases c2 : (k : Int) + 1 < z
    · rw [if_pos c2, if_pos c2, h k hk, h (k + 1) (by omega)]
    · rw [if_neg c2, if_neg c2, h k hk, h (k - 1) (by omega)]
theorem xpt_c {w w' : WyS} {n : Nat} (h : WyE n w w') {c : Int} {a b : Nat} (ha : a < n) (hb : b < n) (q : XPT w c a b) : XPT w' c a b := by
  obtain ⟨k, k1, k2, j, j1, j2, j3⟩ := q
  obtain ⟨a1, a2⟩ := h a ha
  obtain ⟨b1, b2⟩ := h b hb
  refine ⟨k, by rw [← a1]; exact k1, by rw [← a2 k k1]; exact k2, j, by rw [← b1]; exact j1, ?_, ?_⟩
  · rw [← b2 j j1, ← a2 k k1]; exact j2
  · rw [← a1, ← b1, ← gokc2 a2 k1, ← gokc2 b2 j1]; exact j3
theorem wye_sy {n : Nat} {w w' : WyS} (h : WyE n w w') : WyE n w' w := fun x hx => ⟨(h x hx).1.symm, fun k hk => ((h x hx).2 k (by rw [(h x hx).1]; exact hk)).symm⟩
theorem xct_c {w w' : WyS} {n : Nat} (h : WyE n w w') {c : Int} : XCT w n c ↔ XCT w' n c := ⟨fun ⟨a, b, ab, bn, q⟩ => ⟨a, b, ab, bn, xpt_c h (by omega) bn q⟩, fun ⟨a, b, ab, bn, q⟩ => ⟨a, b, ab, bn, xpt_c (wye_sy h) (by omega) bn q⟩⟩
/-- the couples that the class keeps say where ways cross -/
theorem xc_cpl {s : PS} (hA : AIR s) (hC : CPL s) (h0 : 0 ≤ iI s 9) {z j : Nat} (hz : z < 2) (hj : j < 64) : (∃ c : Nat, (c : Int) < iI s 10 ∧ bJ (gD s 7 (2 * c + z)) j) ↔ XCT (WYC s) (iI s 9).toNat ((64 * z + j : Nat) : Int) := by
  obtain ⟨H, hH⟩ : ∃ H : CpH, H = fun _ _ lo hi => i01 (bJ (if z = 0 then lo else hi) j) := ⟨_, rfl⟩
  have hH0 : ∀ a b, H a b 0 0 = 0 := fun a b => by
    rw [hH]
    show i01 (bJ (if z = 0 then (0 : Int64) else 0) j) = 0
    rw [ite_self]
    exact i01_f jb_z
  have hHz : ∀ a b lo hi, 0 ≤ H a b lo hi := fun a b lo hi => by rw [hH]; exact i01_r.1
  have key := hC.2 H hH0
  have c0 := hC.1
  have l : 0 < CPS s H (iI s 10).toNat ↔ ∃ c : Nat, (c : Int) < iI s 10 ∧ bJ (gD s 7 (2 * c + z)) j := by
    unfold CPS
    rw [sm_ex (fun c _ => hHz _ _ _ _)]
    have e : ∀ c : Nat, H (iC s 6 c / 12).toNat (iC s 6 c % 12).toNat (gD s 7 (2 * c)) (gD s 7 (2 * c + 1)) = i01 (bJ (gD s 7 (2 * c + z)) j) := fun c => by
      rw [hH]
      show i01 (bJ (if z = 0 then gD s 7 (2 * c) else gD s 7 (2 * c + 1)) j) = _
      rcases (show z = 0 ∨ z = 1 by omega) with q | q
      · rw [if_pos q, q]; rfl
      · rw [if_neg (by omega), q]
    constructor
    · rintro ⟨c, c1, c2⟩
      rw [e, i01_p] at c2
      exact ⟨c, by omega, c2⟩
    · rintro ⟨c, c1, c2⟩
      refine ⟨c, by omega, ?_⟩
      rw [e, i01_p]; exact c2
  have e2 : ∀ a b : Nat, 0 < CPH s H a b ↔ a < b ∧ bJ (mtF s a b z 7) j := fun a b => by
    unfold CPH
    by_cases c : a < b
    · rw [if_pos c, hH]
      show 0 < i01 (bJ (if z = 0 then mtF s a b 0 7 else mtF s a b 1 7) j) ↔ _
      rw [i01_p]
      rcases (show z = 0 ∨ z = 1 by omega) with q | q
      · rw [if_pos q, q]; exact ⟨fun w => ⟨c, w⟩, fun w => w.2⟩
      · rw [if_neg (by omega), q]; exact ⟨fun w => ⟨c, w⟩, fun w => w.2⟩
    · rw [if_neg c]; exact ⟨fun w => absurd w (by decide), fun w => absurd w.1 c⟩
  have e3 : ∀ a b : Nat, 0 ≤ CPH s H a b := fun a b => by
    unfold CPH
    by_cases c : a < b
    · rw [if_pos c]; exact hHz _ _ _ _
    · rw [if_neg c]; exact Int.le_refl _
  rw [← l, key, sm_ex (fun a _ => sm_nn (fun b _ => e3 a b))]
  constructor
  · rintro ⟨a, a1, a2⟩
    obtain ⟨b, b1, b2⟩ := (sm_ex (fun b _ => e3 a b)).mp a2
    rw [e2] at b2
    exact ⟨a, b, b2.1, b1, (mt_air hA (by omega) (by omega) hz hj).mp b2.2⟩
  · rintro ⟨a, b, ab, b1, q⟩
    refine ⟨a, by omega, (sm_ex (fun b _ => e3 a b)).mpr ⟨b, b1, ?_⟩⟩
    rw [e2]
    exact ⟨ab, (mt_air hA (by omega) (by omega) hz hj).mpr q⟩
/-- all meets of a layer -/
def ALQ (s : PS) (z : Int) (u : Int64) (n : Int) : Prop := ∀ j : Nat, j < 64 → (bJ u j ↔ ∃ c : Nat, (c : Int) < n ∧ bJ (gD s 7 (2 * c + z.toNat)) j)
theorem alq_0 {s : PS} {z : Int} : ALQ s z 0 0 := fun j _ => ⟨fun q => absurd q jb_z, fun ⟨c, c1, _⟩ => by omega⟩
theorem alq_up {s : PS} {z n : Int} {u v : Int64} (h : ALQ s z u n) (n0 : 0 ≤ n) (hv : v = gD s 7 (2 * n.toNat + z.toNat)) : ALQ s z (u ||| v) (n + 1) := fun j hj => by
  rw [jb_or, h j hj, hv]
  constructor
  · rintro (⟨c, c1, c2⟩ | q)
    · exact ⟨c, by omega, c2⟩
    · exact ⟨n.toNat, by omega, q⟩
  · rintro ⟨c, c1, c2⟩
    by_cases e : c = n.toNat
    · rw [e] at c2; exact Or.inr c2
    · exact Or.inl ⟨c, by omega, c2⟩
theorem xc_in {s : PS} (hA : AIR s) (hC : CPL s) (h0 : 0 ≤ iI s 9) {m0 m1 : Int64} (q0 : ALQ s 0 m0 (iI s 10)) (q1 : ALQ s 1 m1 (iI s 10)) {c : Nat} (hc : c < 128) : inL m0 m1 (c : Int) ↔ XCT (WYC s) (iI s 9).toNat (c : Int) := by
  by_cases r : c < 64
  · have z := xc_cpl hA hC h0 (z := 0) (j := c) (by decide) r
    rw [inl_l r, q0 c r, show (0 : Int).toNat = 0 from rfl, z, show (64 * 0 + c : Nat) = c by omega]
  · have z := xc_cpl hA hC h0 (z := 1) (j := c - 64) (by decide) (by omega)
    have e : (c : Int) = 64 + ((c - 64 : Nat) : Int) := by omega
    rw [e, inl_h (by omega), q1 _ (by omega), show (1 : Int).toNat = 1 from rfl, z, show ((64 * 1 + (c - 64) : Nat) : Int) = 64 + ((c - 64 : Nat) : Int) by omega]
/-- a cell of a set, beside one that is not of it -/
def EDG (S : Int → Prop) (c : Int) : Prop := S c ∧ ∃ y : Int, (0 ≤ y ∧ y ≤ 127) ∧ ¬ S y ∧ adjT y c
theorem inl_not {a b : Int64} {y : Int} : inL (a ^^^ lN 18446744073709551615) (b ^^^ lN 18446744073709551615) y ↔ (0 ≤ y ∧ y ≤ 127) ∧ ¬ inL a b y := by
  constructor
  · intro h
    have r := inl_cel y h
    refine ⟨r, fun q => ?_⟩
    rcases cel_c r.1 r.2 with ⟨i, hi, e⟩ | ⟨i, hi, e⟩
    · rw [e, inl_l hi] at h q; exact (jb_not hi).mp h q
    · rw [e, inl_h hi] at h q; exact (jb_not hi).mp h q
  · rintro ⟨r, n⟩
    rcases cel_c r.1 r.2 with ⟨i, hi, e⟩ | ⟨i, hi, e⟩
    · rw [e, inl_l hi] at n ⊢; exact (jb_not hi).mpr n
    · rw [e, inl_h hi] at n ⊢; exact (jb_not hi).mpr n
theorem edg_cnt {a b lo hi e0 e1 : Int64} (h0 : e0 = bsJ (a ^^^ lN 18446744073709551615) (b ^^^ lN 18446744073709551615)) (h1 : e1 = bsJ (b ^^^ lN 18446744073709551615) (a ^^^ lN 18446744073709551615)) : bnN ((a &&& e0) &&& lo) + bnN ((b &&& e1) &&& hi) = sm (fun c : Nat => i01 (EDG (inL a b) (c : Int) ∧ inL lo hi (c : Int))) 128 := by
  rw [← inl_cnt]
  refine sm_eq (fun c hc => i01_c ?_)
  unfold EDG
  by_cases r : c < 64
  · rw [inl_l r, inl_l r, inl_l r, jb_a, jb_a, h0, bs_lo r]
    constructor
    · rintro ⟨⟨q1, y, q2, q3⟩, q4⟩
      exact ⟨⟨q1, y, (inl_not.mp q2).1, (inl_not.mp q2).2, q3⟩, q4⟩
    · rintro ⟨⟨q1, y, q2, q3, q5⟩, q4⟩
      exact ⟨⟨q1, y, inl_not.mpr ⟨q2, q3⟩, q5⟩, q4⟩
  · have e : (c : Int) = 64 + ((c - 64 : Nat) : Int) := by omega
    have r' : c - 64 < 64 := by omega
    rw [e, inl_h r', inl_h r', inl_h r', jb_a, jb_a, h1, bs_hi r']
    constructor
    · rintro ⟨⟨q1, y, q2, q3⟩, q4⟩
      exact ⟨⟨q1, y, (inl_not.mp q2).1, (inl_not.mp q2).2, q3⟩, q4⟩
    · rintro ⟨⟨q1, y, q2, q3, q5⟩, q4⟩
      exact ⟨⟨q1, y, inl_not.mpr ⟨q2, q3⟩, q5⟩, q4⟩
/-- the answer of edge -/
def EGE (S : Int → Prop) (w : WyS) (n : Nat) (e : Int) : Prop := e = sm (fun c : Nat => i01 (EDG S (c : Int) ∧ XCT w n (c : Int))) 128
theorem ege_eq {U : AirD} {f f' : Nat → Int} {p e e' : Int} (h : ∀ j, j < 128 → f j = f' j) (a : EGE (pcS f p) (uW U) (uN U) e) (b : EGE (pcS f' p) (uW U) (uN U) e') : e = e' := by
  rw [← pcs_c h p] at b
  exact a.trans b.symm
theorem ege_of {s : PS} {U : AirD} {m0 m1 : Int64} {S S' : Int → Prop} {e : Int} (hA : AIR s) (hC : CPL s) (hD : CDJ U s) (h0 : 0 ≤ iI s 9) (q0 : ALQ s 0 m0 (iI s 10)) (q1 : ALQ s 1 m1 (iI s 10)) (hS : S = S') (he : e = sm (fun c : Nat => i01 (EDG S (c : Int) ∧ inL m0 m1 (c : Int))) 128) : EGE S' (uW U) (uN U) e := by
  subst hS
  have n : (iI s 9).toNat = uN U := by have := hD.1.1; omega
  unfold EGE
  rw [he]
  refine sm_eq (fun c hc => i01_c ?_)
  rw [xc_in hA hC h0 q0 q1 hc, n, xct_c hD.2.1]
/-- the model: no two of the ways seen cross at the cell -/
def NXC (w : WyS) (n : Nat) (c a : Int) : Prop := ∀ a' b' : Nat, (a' : Int) < a → a' < b' → b' < n → ¬ XPT w c a' b'
def NXI (w : WyS) (n : Nat) (c a b : Int) : Prop := NXC w n c a ∧ ∀ b' : Nat, a.toNat < b' → (b' : Int) < b → ¬ XPT w c a.toNat b'
theorem nxc_0 {w : WyS} {n : Nat} {c : Int} : NXC w n c 0 := fun a' _ h => by omega
theorem nxi_0 {w : WyS} {n : Nat} {c a : Int} (h : NXC w n c a) (a0 : 0 ≤ a) : NXI w n c a (a + 1) := ⟨h, fun b' h1 h2 => by omega⟩
theorem nxi_up {w : WyS} {n : Nat} {c a b : Int} (h : NXI w n c a b) (b0 : 0 ≤ b) (hn : ¬ XPT w c a.toNat b.toNat) : NXI w n c a (b + 1) := ⟨h.1, fun b' h1 h2 => by
  by_cases e : b' = b.toNat
  · rw [e]; exact hn
  · exact h.2 b' h1 (by omega)⟩
theorem nxi_x {w : WyS} {n : Nat} {c a b : Int} (h : NXI w n c a b) (a0 : 0 ≤ a) (hb : (n : Int) ≤ b) : NXC w n c (a + 1) := fun a' b' h1 h2 h3 => by
  by_cases e : a' = a.toNat
  · rw [e] at h2 ⊢; exact h.2 b' h2 (by omega)
  · exact h.1 a' b' (by omega) h2 h3
theorem nxc_no {w : WyS} {n : Nat} {c a : Int} (h : NXC w n c a) (ha : (n : Int) ≤ a) : ¬ XCT w n c := fun ⟨x, y, xy, yn, q⟩ => h x y (by omega) xy yn q
def XCE (w : WyS) (n : Nat) (c e : Int) : Prop := (e = 1 ∧ XCT w n c) ∨ (e = 0 ∧ ¬ XCT w n c)
/-- a place of a cell on two ways: they cross there or not -/
theorem xp_li {U : AirD} {s : PS} (h : MDJ U s) {a b c : Nat} (ha : a < uN U) (hb : b < uN U) (hc : c < 128) : (iC s (178 + a) c = -1 → ¬ XPT (uW U) (c : Int) a b) ∧ (iC s (178 + b) c = -1 → ¬ XPT (uW U) (c : Int) a b) ∧ (iC s (178 + a) c ≠ -1 → iC s (178 + b) c ≠ -1 → ((0 ≤ iC s (178 + a) c ∧ iC s (178 + a) c < (uW U).2 a) ∧ 0 ≤ iC s (178 + b) c ∧ iC s (178 + b) c < (uW U).2 b) ∧ (XPT (uW U) (c : Int) a b ↔ goK ((uW U).1 a) ((uW U).2 a) (iC s (178 + a) c).toNat ≠ goK ((uW U).1 b) ((uW U).2 b) (iC s (178 + b) c).toNat)) := by
  have wa := h.2.2.1 a ha
  have wb := h.2.2.1 b hb
  rcases h.2.2.2.1 a c ha hc with ⟨q1, q2⟩ | ⟨k, k1, k2, k3⟩
  · refine ⟨fun _ => ?_, fun _ => ?_, fun n => absurd q1 n⟩ <;> exact fun ⟨k, k1, k2, _⟩ => q2 k k1 k2
  · rcases h.2.2.2.1 b c hb hc with ⟨r1, r2⟩ | ⟨j, j1, j2, j3⟩
    · refine ⟨fun n => by omega, fun _ => ?_, fun _ n => absurd r1 n⟩
      rintro ⟨i, i1, i2, l, l1, l2, l3⟩
      exact r2 l l1 (l2.trans i2)
    · refine ⟨fun n => by omega, fun n => by omega, fun _ _ => ⟨by omega, ?_⟩⟩
      rw [k3, j3, show ((k : Int)).toNat = k by omega, show ((j : Int)).toNat = j by omega]
      constructor
      · rintro ⟨i, i1, i2, l, l1, l2, l3⟩
        have ei := wa.2.2.2 i k i1 k1 (i2.trans k2.symm)
        have el := wb.2.2.2 l j l1 j1 ((l2.trans i2).trans j2.symm)
        rw [← ei, ← el]; exact l3
      · intro q
        exact ⟨k, k1, k2, j, j1, j2.trans k2.symm, q⟩
theorem goe_U {U : AirD} {t : PS} (h : NWE U t) {x : Nat} (hx : x < uN U) {y : Int} (hy : 0 ≤ y ∧ y < (uW U).2 x) : goK (fwM t x) (iC t 202 x) y.toNat = goK ((uW U).1 x) ((uW U).2 x) y.toNat := by
  obtain ⟨z1, z2⟩ := h.2 x hx
  replace z1 : iC t 202 x = (uW U).2 x := z1
  replace z2 : ∀ k : Nat, (k : Int) < iC t 202 x → fwM t x k = (uW U).1 x k := z2
  rw [gokc2 (g := (uW U).1 x) (fun k hk => z2 k hk) (by rw [z1]; omega), z1]
/-- the model: cells of a piece at its edge, counted -/
def BSN (f : Nat → Int) (p c d : Int) : Prop := ∃ i : Int, 0 ≤ i ∧ i < d ∧ besT c i ≠ -1 ∧ f (besT c i).toNat ≠ p
theorem bsn_edg {f : Nat → Int} {p c : Int} (hc : 0 ≤ c ∧ c ≤ 127) (hp : f c.toNat = p) : BSN f p c 6 ↔ EDG (pcS f p) c := by
  constructor
  · rintro ⟨i, i0, i1, i2, i3⟩
    have ad : adjT c (besT c i) := ⟨i, i0, by omega, rfl, i2⟩
    have r := adj_rng ad hc.1 hc.2
    exact ⟨⟨hc, hp⟩, besT c i, r, fun q => i3 q.2, adj_sym ad hc.1 hc.2⟩
  · rintro ⟨-, y, r, n, ad⟩
    obtain ⟨i, i0, i1, i2, i3⟩ := adj_sym ad r.1 r.2
    exact ⟨i, i0, by omega, by rw [i2]; exact i3, by rw [i2]; exact fun q => n ⟨r, q⟩⟩
def BIZ (P : Prop) (e : Int) : Prop := (e = 1 ∧ P) ∨ (e = 0 ∧ ¬ P)
theorem bsn_0 {f : Nat → Int} {p c : Int} : BIZ (BSN f p c 0) 0 := Or.inr ⟨rfl, fun ⟨i, i0, i1, _⟩ => by omega⟩
theorem bsn_up {f : Nat → Int} {p c d e e' : Int} (h : BIZ (BSN f p c d) e) (d0 : 0 ≤ d) (hn : (e' = 1 ∧ (e = 1 ∨ (besT c d ≠ -1 ∧ f (besT c d).toNat ≠ p))) ∨ (e' = 0 ∧ e = 0 ∧ (besT c d = -1 ∨ f (besT c d).toNat = p))) : BIZ (BSN f p c (d + 1)) e' := by
  have st : BSN f p c (d + 1) ↔ BSN f p c d ∨ (besT c d ≠ -1 ∧ f (besT c d).toNat ≠ p) := by
    constructor
    · rintro ⟨i, i0, i1, i2⟩
      by_cases z : i = d
      · subst z; exact Or.inr i2
      · exact Or.inl ⟨i, i0, by omega, i2⟩
    · rintro (⟨i, i0, i1, i2⟩ | q)
      · exact ⟨i, i0, by omega, i2⟩
      · exact ⟨d, d0, by omega, q⟩
  unfold BIZ
  rw [st]
  rcases hn with ⟨q1, q2⟩ | ⟨q1, q2, q3⟩
  · refine Or.inl ⟨q1, q2.imp (fun z => ?_) id⟩
    rcases h with h | h
    · exact h.2
    · omega
  · refine Or.inr ⟨q1, fun z => ?_⟩
    rcases h with h | h
    · omega
    · rcases z with z | z
      · exact h.2 z
      · rcases q3 with q3 | q3
        · exact z.1 q3
        · exact z.2 q3
noncomputable def egP (S : Int → Prop) (w : WyS) (n : Nat) : Nat → Int := fun c => i01 (EDG S (c : Int) ∧ XCT w n (c : Int))
theorem egp_n {S : Int → Prop} {w : WyS} {n : Nat} {c m : Int} (h : m = sm (egP S w n) c.toNat) (c0 : 0 ≤ c) (hn : ¬ (EDG S c ∧ XCT w n c)) : m = sm (egP S w n) (c + 1).toNat := by
  rw [show (c + 1).toNat = c.toNat + 1 by omega]
  show m = sm (egP S w n) c.toNat + i01 (EDG S ((c.toNat : Nat) : Int) ∧ XCT w n ((c.toNat : Nat) : Int))
  rw [show ((c.toNat : Nat) : Int) = c by omega, i01_f hn, Int.add_zero]; exact h
theorem egp_y {S : Int → Prop} {w : WyS} {n : Nat} {c m e : Int} (h : m = sm (egP S w n) c.toNat) (c0 : 0 ≤ c) (hx : XCT w n c) (he : BIZ (EDG S c) e) : m + e = sm (egP S w n) (c + 1).toNat := by
  rw [show (c + 1).toNat = c.toNat + 1 by omega]
  show m + e = sm (egP S w n) c.toNat + i01 (EDG S ((c.toNat : Nat) : Int) ∧ XCT w n ((c.toNat : Nat) : Int))
  rw [show ((c.toNat : Nat) : Int) = c by omega, ← h]
  rcases he with ⟨q1, q2⟩ | ⟨q1, q2⟩
  · rw [i01_t ⟨q2, hx⟩, q1]
  · rw [i01_f (fun z => q2 z.1), q1]
section M87kg
variable {l : Launch} {s0 : State} {D : va_G} {tys : List (ClassId × FieldType)} {a0 : Array Value} {A : Nat → Nat} {dT : Nat → ClassId} {s : PS}
set_option maxRecDepth 4000 in
theorem c9_allMeets6 (G : GX l s0 D tys a0 dT) (I : Bd s) {y : Int} (p0 : 0 ≤ y ∧ y ≤ 1) : CT l s0 D A dT 112 (rmN 112) [.ref (A 3), .int (Int32.ofInt y)] s (fun o t => Bd t ∧ Fm [] [] s t ∧ ∃ e : Int64, o = .inl (some (.long e)) ∧ (ALQ s y e (iI s 10))) := by
  refine ct_ofX G (by decide) (Nat.le_of_ble_eq_true rfl) (fun k X E ET hRt hXt q => ?_)
  show WS k 0 [(0, .ref (A 3)), (1, .int (Int32.ofInt y))] [] _ 0 0
  have F : Fm [] [] s s := fm_rf _ _ s
  have b1 := bi_10 I
  have L5 : ∀ (n : Nat) (t : PS) (yv : Int) (al : Int64) (c : Int), Bd t → Fm [] [] s t → (ALQ s y al c) → ((yv = y ∧ 0 ≤ y ∧ y ≤ 1) ∧ 0 ≤ c ∧ c ≤ iI s 10 ∧ iI t 10 = iI s 10) → (66 - c : Int).toNat < n → (∀ (t' : PS) (al' : Int64) (c' : Int), Bd t' → Fm [] [] s t' → (ALQ s y al' c') → (c' = iI s 10) → WS k 34 [(0, .ref (A 3)), (1, .int (Int32.ofInt yv)), (2, .long al'), (4, .int (Int32.ofInt c'))] [] (Wd A dT t') 0 0) → WS k 5 [(0, .ref (A 3)), (1, .int (Int32.ofInt yv)), (2, .long al), (4, .int (Int32.ofInt c))] [] (Wd A dT t) 0 0 := by
    intro n
    induction n with
    | zero =>
      intro t yv al c I F hq hi hm kx
      exact absurd hm (Nat.not_lt_zero _)
    | succ n ih =>
      intro t yv al c I F hq hi hm kx
      have b1001 := bi_10 I
      refine z_load X (x := c) rfl (List.Mem.tail _ (List.Mem.tail _ (List.Mem.tail _ (List.Mem.head _)))) (z_aload_n X (x := A 3) rfl (List.Mem.head _) (z_getI X 3 rfl (c518_ok rfl) rfl rfl ?_))
      have b1002 := bi_10 I
      refine z_icmp_ge X (t := 34) rfl rfl ⟨by first | exact oq_fa4e5087 hi.2.1 | omega, by first | exact oq_b63fabfa hi.2.2.1 b1.2 | omega⟩ (rng_to _) (fun g1003 => ?_) (fun g1003 => ?_)
      ·
        refine WS_pq [0, 1, 2, 3] (lv' := [(0, .ref (A 3)), (1, .int (Int32.ofInt yv)), (2, .long al), (4, .int (Int32.ofInt c))]) rfl ?_
        exact kx _ al c I F hq (by first | exact oq_537ca82a hi.2.2.1 g1003 hi.2.2.2 | omega)
      ·
        refine w_lload_n X.1 (ax_d X (show cdA 112 14 = some (.lload_n 2, 1, 0, 0, 0) from rfl)) (x := al) (List.Mem.tail _ (List.Mem.tail _ (List.Mem.head _))) (z_aload_n X (x := A 3) rfl (List.Mem.head _) (s_getR X 3 rfl (c518_ok rfl) rfl rfl (z_load X (x := c) rfl (List.Mem.tail _ (List.Mem.tail _ (List.Mem.tail _ (List.Mem.head _)))) (z_const X rfl (z_mul X rfl (z_load_n X (x := yv) rfl (List.Mem.tail _ (List.Mem.head _)) (z_add X rfl (z_lalE X 10 rfl (by decide) rfl (by first | exact oq_cdaa5e0d hi.2.1 hi.1.1 hi.1.2.1 | omega) (show ((c * 2) + yv) < 132 by first | exact oq_a20b6461 hi.1.1 g1003 hi.1.2.2 b1002.2 | omega) (by decide) (w_lor X.1 (ax_d X (show cdA 112 26 = some (.lor, 1, 0, 0, 0) from rfl)) (w_lstore_n X.1 (lv' := [(2, .long (al ||| (gD t 7 (((c * 2) + yv)).toNat))), (0, .ref (A 3)), (1, .int (Int32.ofInt yv)), (4, .int (Int32.ofInt c))]) (ax_d X (show cdA 112 27 = some (.lstore_n 2, 1, 0, 0, 0) from rfl)) (by rw [X.2.1.2.2]; decide) (fun _ h => h) (z_inc X (x := c) (lv' := [(4, .int (Int32.ofInt (c + 1))), (2, .long (al ||| (gD t 7 (((c * 2) + yv)).toNat))), (0, .ref (A 3)), (1, .int (Int32.ofInt yv))]) rfl (by decide) (List.Mem.tail _ (List.Mem.tail _ (List.Mem.tail _ (List.Mem.head _)))) (fun _ h => h) ?_)))))))))))
        refine z_goto X (t := 5) rfl rfl (WS_pq [2, 3, 1, 0] (lv' := [(0, .ref (A 3)), (1, .int (Int32.ofInt yv)), (2, .long (al ||| (gD t 7 (((c * 2) + yv)).toNat))), (4, .int (Int32.ofInt (c + 1)))]) rfl ?_)
        exact ih _ yv (al ||| (gD t 7 (((c * 2) + yv)).toNat)) (c + 1) I F (alq_up hq (by omega) ((fm_dd F (by decide)).trans (congrArg (gD s 7) (by omega)))) (by first | exact ⟨And.intro (hi.1.1) (And.intro (hi.1.2.1) (hi.1.2.2)), oq_54f49eb5 hi.2.1, oq_8a89b3ae g1003 hi.2.2.2, hi.2.2.2⟩ | omega) (by first | exact qk_me hm (by decide) (oq_dd0e9829 g1003 b1002.2) | omega) kx
  refine w_lconst X.1 (ax_d X (show cdA 112 0 = some (.lconst 0, 1, 0, 0, 0) from rfl)) (z := (0 : Int64)) (by decide) (w_lstore_n X.1 (lv' := [(2, .long (0 : Int64)), (0, .ref (A 3)), (1, .int (Int32.ofInt y))]) (ax_d X (show cdA 112 1 = some (.lstore_n 2, 1, 0, 0, 0) from rfl)) (by rw [X.2.1.2.2]; decide) (fun _ h => h) (z_const X rfl (z_store X (lv' := [(4, .int (Int32.ofInt 0)), (2, .long (0 : Int64)), (0, .ref (A 3)), (1, .int (Int32.ofInt y))]) rfl (by decide) (fun _ h => h) (WS_pq [2, 3, 1, 0] (lv' := [(0, .ref (A 3)), (1, .int (Int32.ofInt y)), (2, .long (0 : Int64)), (4, .int (Int32.ofInt 0))]) rfl (L5 ((66 - 0 : Int).toNat + 1) s y (0 : Int64) 0 I F alq_0 (by first | exact ⟨And.intro (by decide) (And.intro (p0.1) (p0.2)), by decide, b1.1, by decide⟩ | omega) (Nat.lt_succ_self _) ?_)))))
  intro s2 x3 x4 Is2 Fs2 Qs2 hs2
  have b5 := bi_10 Is2
  refine w_lload_n X.1 (ax_d X (show cdA 112 34 = some (.lload_n 2, 1, 0, 0, 0) from rfl)) (x := x3) (List.Mem.tail _ (List.Mem.tail _ (List.Mem.head _))) ?_
  exact w_lret X.1 q hRt (ax_d X (show cdA 112 35 = some (.lreturn, 1, 0, 0, 0) from rfl)) (Nat.zero_le _) (Nat.zero_le _) ⟨_, rfl, Is2, Fs2, x3, rfl, (by have z := Qs2; rw [show x4 = iI s 10 by omega] at z; exact z)⟩
set_option maxRecDepth 4000 in
theorem c3_atEdge6 (G : GX l s0 D tys a0 dT) (I : Bd s) {x : Int} {aj bj : Int64} (p0 : 0 ≤ x ∧ x ≤ 7) : CT l s0 D A dT 38 (rmN 38) [.ref (A 25), .int (Int32.ofInt x), .long aj, .long bj] s (fun o t => Bd t ∧ Fm [] [] s t ∧ ∃ e, o = .inl (some (.int (Int32.ofInt e))) ∧ rng e ∧ (e = sm (fun c : Nat => i01 (EDG (inL (gD s 22 (x : Int).toNat) (gD s 23 (x : Int).toNat)) (c : Int) ∧ inL aj bj (c : Int))) 128)) := by
  refine ct_ofX G (by decide) (Nat.le_of_ble_eq_true rfl) (fun k X E ET hRt hXt q => ?_)
  show WS k 0 [(0, .ref (A 25)), (1, .int (Int32.ofInt x)), (2, .long aj), (4, .long bj)] [] _ 0 0
  have F : Fm [] [] s s := fm_rf _ _ s
  refine z_aload_n X (x := A 25) rfl (List.Mem.head _) (s_getR X 25 rfl (c518_ok rfl) rfl rfl (z_load_n X (x := x) rfl (List.Mem.tail _ (List.Mem.head _)) (z_lalE X 27 rfl (by decide) rfl (by first | exact p0.1 | omega) (show x < 8 by first | exact oq_aaea290e p0.2 | omega) (by decide) (z_aload_n X (x := A 25) rfl (List.Mem.head _) (s_getR X 25 rfl (c518_ok rfl) rfl rfl (z_load_n X (x := x) rfl (List.Mem.tail _ (List.Mem.head _)) (z_lalE X 27 rfl (by decide) rfl (by first | exact p0.1 | omega) (show x < 8 by first | exact oq_aaea290e p0.2 | omega) (by decide) (z_ldc2E X rfl (w_lxor X.1 (ax_d X (show cdA 38 15 = some (.lxor, 1, 0, 0, 0) from rfl)) (z_aload_n X (x := A 25) rfl (List.Mem.head _) (s_getR X 25 rfl (c518_ok rfl) rfl rfl ?_)))))))))))
  refine z_load_n X (x := x) rfl (List.Mem.tail _ (List.Mem.head _)) (z_lalE X 28 rfl (by decide) rfl (by first | exact p0.1 | omega) (show x < 8 by first | exact oq_aaea290e p0.2 | omega) (by decide) (z_ldc2E X rfl (w_lxor X.1 (ax_d X (show cdA 38 25 = some (.lxor, 1, 0, 0, 0) from rfl)) (z_callS X (rm := rmN 33) (As := [.long ((gD s 22 (x).toNat) ^^^ (lN 18446744073709551615)), .long ((gD s 23 (x).toNat) ^^^ (lN 18446744073709551615))]) (st := [.long (gD s 22 (x).toNat)]) rfl rfl (by rw [E.1, E.2.1, E.2.2.1]; exact c3_beside3 G I ) ⟨by rw [E.2.2.2]; exact (show (rmN 33).frames + 1 ≤ (rmN 38).frames by decide), by rw [E.2.2.2]; exact (show 8 + (mNL (miB 33) + 11) + (rmN 33).locals ≤ (rmN 38).locals by decide), by rw [E.2.2.2]; exact (show 0 + (rmN 33).cells ≤ (rmN 38).cells by decide), by rw [E.2.2.2]; exact (show 0 + (rmN 33).slots ≤ (rmN 38).slots by decide)⟩ (Nat.le_of_ble_eq_true rfl) (fun vv s1 hq => ?_) (fun ee s1 hq => ?_)))))
  rotate_left
  · obtain ⟨Is1, Fs1, e2, hv, hps1⟩ := hq; cases hv
  obtain ⟨Is1, Fs1, e2, hv, hps1⟩ := hq
  cases hv
  have Gs1 := fm_tq F Fs1 rfl rfl
  show WS k 29 [(0, .ref (A 25)), (1, .int (Int32.ofInt x)), (2, .long aj), (4, .long bj)] [.long e2, .long (gD s 22 (x).toNat)] (Wd A dT s1) 0 0
  have hE0 : e2 = bsJ ((gD s 22 (x : Int).toNat) ^^^ lN 18446744073709551615) ((gD s 23 (x : Int).toNat) ^^^ lN 18446744073709551615) := hps1
  refine w_land X.1 (ax_d X (show cdA 38 29 = some (.land, 1, 0, 0, 0) from rfl)) (w_lstore X.1 (lv' := [(6, .long ((gD s 22 (x).toNat) &&& e2)), (0, .ref (A 25)), (1, .int (Int32.ofInt x)), (2, .long aj), (4, .long bj)]) (ax_d X (show cdA 38 30 = some (.lstore 6, 2, 0, 0, 0) from rfl)) (by rw [X.2.1.2.2]; decide) (fun _ h => h) (z_aload_n X (x := A 25) rfl (List.Mem.tail _ (List.Mem.head _)) (s_getR X 25 rfl (c518_ok rfl) rfl rfl (z_load_n X (x := x) rfl (List.Mem.tail _ (List.Mem.tail _ (List.Mem.head _))) (z_lalE X 28 rfl (by decide) rfl (by first | exact p0.1 | omega) (show x < 8 by first | exact oq_aaea290e p0.2 | omega) (by decide) (z_aload_n X (x := A 25) rfl (List.Mem.tail _ (List.Mem.head _)) (s_getR X 25 rfl (c518_ok rfl) rfl rfl (z_load_n X (x := x) rfl (List.Mem.tail _ (List.Mem.tail _ (List.Mem.head _))) (z_lalE X 28 rfl (by decide) rfl (by first | exact p0.1 | omega) (show x < 8 by first | exact oq_aaea290e p0.2 | omega) (by decide) (z_ldc2E X rfl (w_lxor X.1 (ax_d X (show cdA 38 47 = some (.lxor, 1, 0, 0, 0) from rfl)) ?_)))))))))))
  refine z_aload_n X (x := A 25) rfl (List.Mem.tail _ (List.Mem.head _)) (s_getR X 25 rfl (c518_ok rfl) rfl rfl (z_load_n X (x := x) rfl (List.Mem.tail _ (List.Mem.tail _ (List.Mem.head _))) (z_lalE X 27 rfl (by decide) rfl (by first | exact p0.1 | omega) (show x < 8 by first | exact oq_aaea290e p0.2 | omega) (by decide) (z_ldc2E X rfl (w_lxor X.1 (ax_d X (show cdA 38 57 = some (.lxor, 1, 0, 0, 0) from rfl)) (z_callS X (rm := rmN 33) (As := [.long ((gD s1 23 (x).toNat) ^^^ (lN 18446744073709551615)), .long ((gD s1 22 (x).toNat) ^^^ (lN 18446744073709551615))]) (st := [.long (gD s1 23 (x).toNat)]) rfl rfl (by rw [E.1, E.2.1, E.2.2.1]; exact c3_beside3 G Is1 ) ⟨by rw [E.2.2.2]; exact (show (rmN 33).frames + 1 ≤ (rmN 38).frames by decide), by rw [E.2.2.2]; exact (show 8 + (mNL (miB 33) + 11) + (rmN 33).locals ≤ (rmN 38).locals by decide), by rw [E.2.2.2]; exact (show 0 + (rmN 33).cells ≤ (rmN 38).cells by decide), by rw [E.2.2.2]; exact (show 0 + (rmN 33).slots ≤ (rmN 38).slots by decide)⟩ (Nat.le_of_ble_eq_true rfl) (fun vv s3 hq => ?_) (fun ee s3 hq => ?_)))))))
  rotate_left
  · obtain ⟨Is3, Fs3, e4, hv, hps3⟩ := hq; cases hv
  obtain ⟨Is3, Fs3, e4, hv, hps3⟩ := hq
  cases hv
  have Gs3 := fm_tq Gs1 Fs3 rfl rfl
  show WS k 61 [(6, .long ((gD s 22 (x).toNat) &&& e2)), (0, .ref (A 25)), (1, .int (Int32.ofInt x)), (2, .long aj), (4, .long bj)] [.long e4, .long (gD s1 23 (x).toNat)] (Wd A dT s3) 0 0
  have hE1 : e4 = bsJ ((gD s 23 (x : Int).toNat) ^^^ lN 18446744073709551615) ((gD s 22 (x : Int).toNat) ^^^ lN 18446744073709551615) := by have z := hps3; rw [(fm_dd Gs1 (by decide) : gD s1 23 (x : Int).toNat = gD s 23 (x : Int).toNat), (fm_dd Gs1 (by decide) : gD s1 22 (x : Int).toNat = gD s 22 (x : Int).toNat)] at z; exact z
  refine w_land X.1 (ax_d X (show cdA 38 61 = some (.land, 1, 0, 0, 0) from rfl)) (w_lstore X.1 (lv' := [(8, .long ((gD s1 23 (x).toNat) &&& e4)), (6, .long ((gD s 22 (x).toNat) &&& e2)), (0, .ref (A 25)), (1, .int (Int32.ofInt x)), (2, .long aj), (4, .long bj)]) (ax_d X (show cdA 38 62 = some (.lstore 8, 2, 0, 0, 0) from rfl)) (by rw [X.2.1.2.2]; decide) (fun _ h => h) (w_lload X.1 (ax_d X (show cdA 38 64 = some (.lload 6, 2, 0, 0, 0) from rfl)) (x := ((gD s 22 (x).toNat) &&& e2)) (List.Mem.tail _ (List.Mem.head _)) (w_lload_n X.1 (ax_d X (show cdA 38 66 = some (.lload_n 2, 1, 0, 0, 0) from rfl)) (x := aj) (List.Mem.tail _ (List.Mem.tail _ (List.Mem.tail _ (List.Mem.tail _ (List.Mem.head _))))) (w_land X.1 (ax_d X (show cdA 38 67 = some (.land, 1, 0, 0, 0) from rfl)) (z_callS X (rm := rmN 298) (As := [.long (((gD s 22 (x).toNat) &&& e2) &&& aj)]) (st := []) rfl rfl (by rw [E.1, E.2.1, E.2.2.1]; exact j_bitL3 G Is3 ) ⟨by rw [E.2.2.2]; exact (show (rmN 298).frames + 1 ≤ (rmN 38).frames by decide), by rw [E.2.2.2]; exact (show 8 + (mNL (miB 298) + 11) + (rmN 298).locals ≤ (rmN 38).locals by decide), by rw [E.2.2.2]; exact (show 0 + (rmN 298).cells ≤ (rmN 38).cells by decide), by rw [E.2.2.2]; exact (show 0 + (rmN 298).slots ≤ (rmN 38).slots by decide)⟩ (Nat.le_of_ble_eq_true rfl) (fun vv s5 hq => ?_) (fun ee s5 hq => ?_))))))
  rotate_left
  · obtain ⟨rfl, e6, hv, hrs5, hps5⟩ := hq; cases hv
  obtain ⟨rfl, e6, hv, hrs5, hps5⟩ := hq
  cases hv
  show WS k 71 [(8, .long ((gD s1 23 (x).toNat) &&& e4)), (6, .long ((gD s 22 (x).toNat) &&& e2)), (0, .ref (A 25)), (1, .int (Int32.ofInt x)), (2, .long aj), (4, .long bj)] [.int (Int32.ofInt e6)] (Wd A dT s3) 0 0
  refine w_lload X.1 (ax_d X (show cdA 38 71 = some (.lload 8, 2, 0, 0, 0) from rfl)) (x := ((gD s1 23 (x).toNat) &&& e4)) (List.Mem.head _) (w_lload X.1 (ax_d X (show cdA 38 73 = some (.lload 4, 2, 0, 0, 0) from rfl)) (x := bj) (List.Mem.tail _ (List.Mem.tail _ (List.Mem.tail _ (List.Mem.tail _ (List.Mem.tail _ (List.Mem.head _)))))) (w_land X.1 (ax_d X (show cdA 38 75 = some (.land, 1, 0, 0, 0) from rfl)) (z_callS X (rm := rmN 298) (As := [.long (((gD s1 23 (x).toNat) &&& e4) &&& bj)]) (st := [.int (Int32.ofInt e6)]) rfl rfl (by rw [E.1, E.2.1, E.2.2.1]; exact j_bitL3 G Is3 ) ⟨by rw [E.2.2.2]; exact (show (rmN 298).frames + 1 ≤ (rmN 38).frames by decide), by rw [E.2.2.2]; exact (show 8 + (mNL (miB 298) + 11) + (rmN 298).locals ≤ (rmN 38).locals by decide), by rw [E.2.2.2]; exact (show 0 + (rmN 298).cells ≤ (rmN 38).cells by decide), by rw [E.2.2.2]; exact (show 0 + (rmN 298).slots ≤ (rmN 38).slots by decide)⟩ (Nat.le_of_ble_eq_true rfl) (fun vv s7 hq => ?_) (fun ee s7 hq => ?_))))
  rotate_left
  · obtain ⟨rfl, e8, hv, hrs7, hps7⟩ := hq; cases hv
  obtain ⟨rfl, e8, hv, hrs7, hps7⟩ := hq
  cases hv
  show WS k 79 [(8, .long ((gD s1 23 (x).toNat) &&& e4)), (6, .long ((gD s 22 (x).toNat) &&& e2)), (0, .ref (A 25)), (1, .int (Int32.ofInt x)), (2, .long aj), (4, .long bj)] [.int (Int32.ofInt e8), .int (Int32.ofInt e6)] (Wd A dT s3) 0 0
  have hB0 : e6 = bnN (((gD s 22 (x : Int).toNat) &&& e2) &&& aj) := hps5.1
  have hB1 : e8 = bnN (((gD s 23 (x : Int).toNat) &&& e4) &&& bj) := by have z := hps7.1; rw [(fm_dd Gs1 (by decide) : gD s1 23 (x : Int).toNat = gD s 23 (x : Int).toNat)] at z; exact z
  refine z_add X rfl ?_
  exact w_iret X.1 q hRt rfl (ax_d X (show cdA 38 80 = some (.ireturn, 1, 0, 0, 0) from rfl)) (Nat.zero_le _) (Nat.zero_le _) ⟨_, rfl, Is3, Gs3, (e6 + e8), rfl, ⟨by omega, by omega⟩, (by rw [← edg_cnt (a := (gD s 22 (x : Int).toNat)) (b := (gD s 23 (x : Int).toNat)) (lo := aj) (hi := bj) hE0 hE1, ← hB0, ← hB1])⟩
set_option maxRecDepth 4000 in
theorem cs_edge6 (G : GX l s0 D tys a0 dT) {U : AirD} (I : Bd s) (jAIR : AIR s) (jCPL : CPL s) (jCDJ : CDJ U s) (jPMJ : PMJ s) {u : Int} (p0 : rng u) : CT l s0 D A dT 152 (rmN 152) [.ref (A 0), .int (Int32.ofInt u)] s (fun o t => Bd t ∧ Fm [] [] s t ∧ ((∃ e, o = .inl (some (.int (Int32.ofInt e))) ∧ rng e ∧ ((0 ≤ u ∧ u ≤ 7) ∧ EGE (pcS (pfC s) u) (uW U) (uN U) e)) ∨ ∃ x : Nat, o = .inr (exN x) ∧ (x = 0 ∧ (u < 0 ∨ 7 < u)))) := by
  refine ct_ofX G (by decide) (Nat.le_of_ble_eq_true rfl) (fun k X E ET hRt hXt q => ?_)
  show WS k 0 [(0, .ref (A 0)), (1, .int (Int32.ofInt u))] [] _ 0 0
  have F : Fm [] [] s s := fm_rf _ _ s
  have b1 := bi_9 I
  have b2 := bi_10 I
  refine z_aload_n X (x := A 0) rfl (List.Mem.head _) (z_load_n X (x := u) rfl (List.Mem.tail _ (List.Mem.head _)) (z_callV X 0 (rm := rmN 182) (As := [.int (Int32.ofInt u)]) (st := []) rfl rfl (by decide) rfl (by rw [E.1, E.2.1, E.2.2.1]; exact cs_needPiece6 G I (by first | exact ⟨p0.1, p0.2⟩ | omega)) ⟨by rw [E.2.2.2]; exact (show (rmN 182).frames + 1 ≤ (rmN 152).frames by decide), by rw [E.2.2.2]; exact (show 8 + (mNL (miB 182) + 11) + (rmN 182).locals ≤ (rmN 152).locals by decide), by rw [E.2.2.2]; exact (show 0 + 1 ≤ 1 by decide), by rw [E.2.2.2]; exact (show 0 + 6 ≤ 6 by decide)⟩ (Nat.le_of_ble_eq_true rfl) (fun vv s3 hq => ?_) (fun ee s3 hq => ?_)))
  rotate_left
  · obtain ⟨Is3, Fs3, (⟨hv, hps3⟩ | ⟨xx, hv, hps3⟩)⟩ := hq
    · cases hv
    · cases hv
      have Gs3 := fm_tq F Fs3 rfl rfl
      have JAIR_s3 : AIR s3 := AIR_fm Fs3 (by decide) jAIR
      have JCPL_s3 : CPL s3 := CPL_fm Fs3 (by decide) jCPL
      have JCDJ_s3 : CDJ U s3 := CDJ_fm Fs3 (by decide) jCDJ
      have JPMJ_s3 : PMJ s3 := PMJ_fm Fs3 (by decide) jPMJ
      have ws3_9 : iI s3 9 = iI s 9 := fm_iq Fs3 rfl
      have ws3_10 : iI s3 10 = iI s 10 := fm_iq Fs3 rfl
      exact x_out X.1 q (fun x hx => (hXt x hx).elim) (show 1 ≤ 1 by decide) (show 6 ≤ 6 by decide) ⟨_, rfl, Is3, Gs3, Or.inr ⟨xx, rfl, by omega⟩⟩
  obtain ⟨Is3, Fs3, (⟨hv, hps3⟩ | ⟨xx, hv, hps3⟩)⟩ := hq
  rotate_left
  · cases hv
  cases hv
  have Gs3 := fm_tq F Fs3 rfl rfl
  have JAIR_s3 : AIR s3 := AIR_fm Fs3 (by decide) jAIR
  have JCPL_s3 : CPL s3 := CPL_fm Fs3 (by decide) jCPL
  have JCDJ_s3 : CDJ U s3 := CDJ_fm Fs3 (by decide) jCDJ
  have JPMJ_s3 : PMJ s3 := PMJ_fm Fs3 (by decide) jPMJ
  have ws3_9 : iI s3 9 = iI s 9 := fm_iq Fs3 rfl
  have ws3_10 : iI s3 10 = iI s 10 := fm_iq Fs3 rfl
  show WS k 5 [(0, .ref (A 0)), (1, .int (Int32.ofInt u))] [] (Wd A dT s3) 1 6
  refine z_aload_n X (x := A 0) rfl (List.Mem.head _) (s_getR X 0 rfl (c518_ok rfl) rfl rfl (z_load_n X (x := u) rfl (List.Mem.tail _ (List.Mem.head _)) (z_aload_n X (x := A 0) rfl (List.Mem.head _) (s_getR X 0 rfl (c518_ok rfl) rfl rfl (z_const X rfl (z_callV X 3 (rm := rmN 112) (As := [.int (Int32.ofInt 0)]) (st := [.int (Int32.ofInt u), .ref (A 25)]) rfl rfl (by decide) rfl (by rw [E.1, E.2.1, E.2.2.1]; exact c9_allMeets6 G Is3 (by first | exact ⟨by decide, by decide⟩ | omega)) ⟨by rw [E.2.2.2]; exact (show (rmN 112).frames + 1 ≤ (rmN 152).frames by decide), by rw [E.2.2.2]; exact (show 8 + (mNL (miB 112) + 11) + (rmN 112).locals ≤ (rmN 152).locals by decide), by rw [E.2.2.2]; exact (show 1 + 0 ≤ 1 by decide), by rw [E.2.2.2]; exact (show 6 + 0 ≤ 6 by decide)⟩ (Nat.le_of_ble_eq_true rfl) (fun vv s5 hq => ?_) (fun ee s5 hq => ?_)))))))
  rotate_left
  · obtain ⟨Is5, Fs5, e6, hv, hps5⟩ := hq; cases hv
  obtain ⟨Is5, Fs5, e6, hv, hps5⟩ := hq
  cases hv
  have Gs5 := fm_tq Gs3 Fs5 rfl rfl
  have JAIR_s5 : AIR s5 := AIR_fm Fs5 (by decide) JAIR_s3
  have JCPL_s5 : CPL s5 := CPL_fm Fs5 (by decide) JCPL_s3
  have JCDJ_s5 : CDJ U s5 := CDJ_fm Fs5 (by decide) JCDJ_s3
  have JPMJ_s5 : PMJ s5 := PMJ_fm Fs5 (by decide) JPMJ_s3
  have ws5_9 : iI s5 9 = iI s3 9 := fm_iq Fs5 rfl
  have ws5_10 : iI s5 10 = iI s3 10 := fm_iq Fs5 rfl
  show WS k 18 [(0, .ref (A 0)), (1, .int (Int32.ofInt u))] [.long e6, .int (Int32.ofInt u), .ref (A 25)] (Wd A dT s5) 1 6
  refine z_aload_n X (x := A 0) rfl (List.Mem.head _) (s_getR X 0 rfl (c518_ok rfl) rfl rfl (z_const X rfl (z_callV X 3 (rm := rmN 112) (As := [.int (Int32.ofInt 1)]) (st := [.long e6, .int (Int32.ofInt u), .ref (A 25)]) rfl rfl (by decide) rfl (by rw [E.1, E.2.1, E.2.2.1]; exact c9_allMeets6 G Is5 (by first | exact ⟨by decide, by decide⟩ | omega)) ⟨by rw [E.2.2.2]; exact (show (rmN 112).frames + 1 ≤ (rmN 152).frames by decide), by rw [E.2.2.2]; exact (show 8 + (mNL (miB 112) + 11) + (rmN 112).locals ≤ (rmN 152).locals by decide), by rw [E.2.2.2]; exact (show 1 + 0 ≤ 1 by decide), by rw [E.2.2.2]; exact (show 6 + 0 ≤ 6 by decide)⟩ (Nat.le_of_ble_eq_true rfl) (fun vv s7 hq => ?_) (fun ee s7 hq => ?_))))
  rotate_left
  · obtain ⟨Is7, Fs7, e8, hv, hps7⟩ := hq; cases hv
  obtain ⟨Is7, Fs7, e8, hv, hps7⟩ := hq
  cases hv
  have Gs7 := fm_tq Gs5 Fs7 rfl rfl
  have JAIR_s7 : AIR s7 := AIR_fm Fs7 (by decide) JAIR_s5
  have JCPL_s7 : CPL s7 := CPL_fm Fs7 (by decide) JCPL_s5
  have JCDJ_s7 : CDJ U s7 := CDJ_fm Fs7 (by decide) JCDJ_s5
  have JPMJ_s7 : PMJ s7 := PMJ_fm Fs7 (by decide) JPMJ_s5
  have ws7_9 : iI s7 9 = iI s5 9 := fm_iq Fs7 rfl
  have ws7_10 : iI s7 10 = iI s5 10 := fm_iq Fs7 rfl
  show WS k 26 [(0, .ref (A 0)), (1, .int (Int32.ofInt u))] [.long e8, .long e6, .int (Int32.ofInt u), .ref (A 25)] (Wd A dT s7) 1 6
  refine z_callV X 25 (rm := rmN 38) (As := [.int (Int32.ofInt u), .long e6, .long e8]) (st := []) rfl rfl (by decide) rfl (by rw [E.1, E.2.1, E.2.2.1]; exact c3_atEdge6 G Is7 (by first | exact ⟨hps3.1, hps3.2⟩ | omega)) ⟨by rw [E.2.2.2]; exact (show (rmN 38).frames + 1 ≤ (rmN 152).frames by decide), by rw [E.2.2.2]; exact (show 8 + (mNL (miB 38) + 11) + (rmN 38).locals ≤ (rmN 152).locals by decide), by rw [E.2.2.2]; exact (show 1 + 0 ≤ 1 by decide), by rw [E.2.2.2]; exact (show 6 + 0 ≤ 6 by decide)⟩ (Nat.le_of_ble_eq_true rfl) (fun vv s9 hq => ?_) (fun ee s9 hq => ?_)
  rotate_left
  · obtain ⟨Is9, Fs9, e10, hv, hrs9, hps9⟩ := hq; cases hv
  obtain ⟨Is9, Fs9, e10, hv, hrs9, hps9⟩ := hq
  cases hv
  have Gs9 := fm_tq Gs7 Fs9 rfl rfl
  have ws9_9 : iI s9 9 = iI s7 9 := fm_iq Fs9 rfl
  have ws9_10 : iI s9 10 = iI s7 10 := fm_iq Fs9 rfl
  show WS k 29 [(0, .ref (A 0)), (1, .int (Int32.ofInt u))] [.int (Int32.ofInt e10)] (Wd A dT s9) 1 6
  exact w_iret X.1 q hRt rfl (ax_d X (show cdA 152 29 = some (.ireturn, 1, 0, 0, 0) from rfl)) (show 1 ≤ 1 by decide) (show 6 ≤ 6 by decide) ⟨_, rfl, Is9, Gs9, Or.inl ⟨e10, rfl, hrs9, ⟨by first | exact ⟨hps3.1, hps3.2⟩ | omega, ege_of (m0 := e6) (m1 := e8) JAIR_s7 JCPL_s7 JCDJ_s7 (by first | (clear hps3; omega) | omega) (show ALQ s7 0 e6 (iI s7 10) from fun j hj => by have z := hps5 j hj; rw [show iI s3 10 = iI s7 10 by first | (clear hps3; omega) | omega] at z; simp only [(fun i => (fm_dd Gs3 (by decide) : gD s3 7 i = gD s 7 i)), (fun i => (fm_dd Gs7 (by decide) : gD s7 7 i = gD s 7 i))] at z ⊢; exact z) (show ALQ s7 1 e8 (iI s7 10) from fun j hj => by have z := hps7 j hj; rw [show iI s5 10 = iI s7 10 by first | (clear hps3; omega) | omega] at z; simp only [(fun i => (fm_dd Gs5 (by decide) : gD s5 7 i = gD s 7 i)), (fun i => (fm_dd Gs7 (by decide) : gD s7 7 i = gD s 7 i))] at z ⊢; exact z) (by rw [pm_eq (p := u) JPMJ_s7 (by first | (clear hps3; omega) | omega), show pfC s7 = pfC s from funext (fun j => fm_c Gs7 (by decide))]) hps9⟩⟩⟩
set_option maxRecDepth 4000 in
theorem lw_edge6 (G : GX l s0 D tys a0 dT) {U : AirD} (I : Bd s) (jAIR : AIR s) (jCPL : CPL s) (jCDJ : CDJ U s) (jPMJ : PMJ s) {u : Int} (p0 : rng u) : CTL l s0 D A dT 329 (rmN 329) [.ref (A 0), .int (Int32.ofInt u), .ref (A 517)] s (fun o t => Bd t ∧ Fm [] [1460] s t ∧ ∃ e, o = .inl (some (.int (Int32.ofInt e))) ∧ rng e ∧ ((e = 0 ∧ (0 ≤ u ∧ u ≤ 7) ∧ EGE (pcS (pfC s) u) (uW U) (uN U) (iO t)) ∨ (e = 1 ∧ (u < 0 ∨ 7 < u)))) := by
  refine ctL_of G (by decide) (Nat.le_of_ble_eq_true rfl) (by decide) rfl (fun k X E ET hRt hEx q => ?_)
  show WS k 0 [(0, .ref (A 0)), (1, .int (Int32.ofInt u)), (2, .ref (A 517))] [] _ 0 0
  have F : Fm [] [1460] s s := fm_rf _ _ s
  have hA := swA_rf A
  refine z_aload_n X (x := A 517) rfl (List.Mem.tail _ (List.Mem.tail _ (List.Mem.head _))) (z_const X rfl (z_aload_n X (x := A 0) rfl (List.Mem.head _) (z_load_n X (x := u) rfl (List.Mem.tail _ (List.Mem.head _)) (z_callV X 0 (rm := rmN 152) (As := [.int (Int32.ofInt u)]) (st := [.int (Int32.ofInt 0), .ref (A 517)]) rfl rfl (by decide) rfl (by rw [E.1, E.2.1, E.2.2.1]; exact cs_edge6 G I jAIR jCPL jCDJ jPMJ (by omega)) ⟨by rw [E.2.2.2]; exact (show (rmN 152).frames + 1 ≤ (rmN 329).frames by decide), by rw [E.2.2.2]; exact (show 8 + (mNL (miB 152) + 11) + (rmN 152).locals ≤ (rmN 329).locals by decide), by rw [E.2.2.2]; exact (show 0 + (rmN 152).cells ≤ (rmN 329).cells by decide), by rw [E.2.2.2]; exact (show 0 + (rmN 152).slots ≤ (rmN 329).slots by decide)⟩ (Nat.le_of_ble_eq_true rfl) (fun vv s1 hq => ?_) (fun ee s1 hq => ?_)))))
  rotate_left
  · obtain ⟨Is1, Fs1, (⟨e2, hv, hrs1, hps1⟩ | ⟨xx, hv, hps1⟩)⟩ := hq
    · cases hv
    · cases hv
      rcases (show xx = 0 by omega) with gx
      ·
        subst gx
        have Gs1 := fm_tq F Fs1 rfl rfl
        refine (hEx 4 0).2 12 rfl _ _ _ _ _ (fun q1 => ?_)
        show WS k 12 [(0, .ref (A 0)), (1, .int (Int32.ofInt u)), (2, .ref (A 517))] [.ref q1] (Wd A dT s1) 1 6
        refine z_astore_n X (lv' := [(3, .ref q1), (0, .ref (A 0)), (1, .int (Int32.ofInt u)), (2, .ref (A 517))]) rfl (by decide) (fun _ h => h) (z_const X rfl ?_)
        exact w_iret X.1 q hRt rfl (ax_d X (show cdA 329 14 = some (.ireturn, 1, 0, 0, 0) from rfl)) (show 1 ≤ 1 by decide) (show 6 ≤ 6 by decide) ⟨A, _, hA, rfl, Is1, Gs1, 1, rfl, (by decide), Or.inr ⟨by decide, by omega⟩⟩
  obtain ⟨Is1, Fs1, (⟨e2, hv, hrs1, hps1⟩ | ⟨xx, hv, hps1⟩)⟩ := hq
  rotate_left
  · cases hv
  cases hv
  have Gs1 := fm_tq F Fs1 rfl rfl
  show WS k 7 [(0, .ref (A 0)), (1, .int (Int32.ofInt u)), (2, .ref (A 517))] [.int (Int32.ofInt e2), .int (Int32.ofInt 0), .ref (A 517)] (Wd A dT s1) 1 6
  refine w_i2l X.1 (ax_d X (show cdA 329 7 = some (.i2l, 1, 0, 0, 0) from rfl)) (z_last X 517 rfl (c518_ok rfl) rfl (by first | (clear hps1; omega) | omega) (show 0 < 1 by first | (clear hps1; omega) | omega) (cbig_ok rfl) (wd_gen (fun s3 hs3 => ?_)))
  have Is3 : Bd s3 := eqB hs3 (bd_D Is1)
  have Fs3 : Fm [] [1460] s s3 := by rw [hs3]; exact fm_D Gs1 (show 460 + 1000 ∈ _ by decide)
  have oos3 : iO s3 = e2 := by rw [hs3]; exact iO_u (by first | (clear hps1; omega) | omega)
  refine z_goto X (t := 15) rfl rfl (z_const X rfl ?_)
  exact w_iret X.1 q hRt rfl (ax_d X (show cdA 329 16 = some (.ireturn, 1, 0, 0, 0) from rfl)) (show 1 ≤ 1 by decide) (show 6 ≤ 6 by decide) ⟨A, _, hA, rfl, Is3, Fs3, 0, rfl, (by decide), Or.inl ⟨by decide, by first | (clear hps1; omega) | omega, by rw [show iO s3 = e2 by first | (clear hps1; omega) | omega]; exact hps1.2⟩⟩
set_option maxRecDepth 4000 in
theorem k_isCrossing6 (G : GX l s0 D tys a0 dT) {U : AirD} (I : Bd s) (jRLx : RLx s) (jMDJ : MDJ U s) {x : Int} (p0 : 0 ≤ x ∧ x ≤ 127) : CT l s0 D A dT 245 (rmN 245) [.ref (A 179), .int (Int32.ofInt x)] s (fun o t => Bd t ∧ Fm [] [202, 204, 205, 206, 207, 208, 209, 210, 211, 212, 213, 214, 215, 216, 217, 218, 219, 220, 221, 222, 223, 224, 225, 226, 227, 203] s t ∧ RLx t ∧ ∃ e, o = .inl (some (.int (Int32.ofInt e))) ∧ rng e ∧ (XCE (uW U) (uN U) x e)) := by
  refine ct_of G (by decide) (Nat.le_of_ble_eq_true rfl) (fun k X E hRt hXt q => ?_)
  show WS k 0 [(0, .ref (A 179)), (1, .int (Int32.ofInt x))] [] _ 0 0
  have F : Fm [] [202, 204, 205, 206, 207, 208, 209, 210, 211, 212, 213, 214, 215, 216, 217, 218, 219, 220, 221, 222, 223, 224, 225, 226, 227, 203] s s := fm_rf _ _ s
  have hU0 : iI s 90 = (uN U : Int) := jMDJ.1.1
  have b1 := bi_90 I
  have L19 : ∀ (n : Nat) (t : PS) (xv a b : Int), Bd t → Fm [] [202, 204, 205, 206, 207, 208, 209, 210, 211, 212, 213, 214, 215, 216, 217, 218, 219, 220, 221, 222, 223, 224, 225, 226, 227, 203] s t → RLx t → MDJ U t → NQ t → NWL t → NWE U t → (NXI (uW U) (uN U) x a b) → ((xv = x ∧ 0 ≤ x ∧ x ≤ 127) ∧ (0 ≤ a ∧ a < iI s 90) ∧ (a < b ∧ b ≤ iI s 90) ∧ iI t 90 = iI s 90) → (12 - b : Int).toNat < n → (∀ (t' : PS) (b' : Int), Bd t' → Fm [] [202, 204, 205, 206, 207, 208, 209, 210, 211, 212, 213, 214, 215, 216, 217, 218, 219, 220, 221, 222, 223, 224, 225, 226, 227, 203] s t' → RLx t' → MDJ U t' → NQ t' → NWL t' → NWE U t' → (NXI (uW U) (uN U) x a b') → ((xv = x ∧ 0 ≤ x ∧ x ≤ 127) ∧ (0 ≤ a ∧ a < iI s 90) ∧ b' = iI s 90 ∧ iI t' 90 = iI s 90) → WS k 88 [(0, .ref (A 179)), (1, .int (Int32.ofInt xv)), (2, .int (Int32.ofInt a)), (3, .int (Int32.ofInt b'))] [] (Wd A dT t') 0 0) → WS k 19 [(0, .ref (A 179)), (1, .int (Int32.ofInt xv)), (2, .int (Int32.ofInt a)), (3, .int (Int32.ofInt b))] [] (Wd A dT t) 0 0 := by
    intro n
    induction n with
    | zero =>
      intro t xv a b I F jjRLx jjMDJ jjNQ jjNWL jjNWE hq hi hm kx
      exact absurd hm (Nat.not_lt_zero _)
    | succ n ih =>
      intro t xv a b I F jjRLx jjMDJ jjNQ jjNWL jjNWE hq hi hm kx
      have b1001 := bi_90 I
      have hnU : iI t 90 = (uN U : Int) := jjMDJ.1.1
      refine z_load_n X (x := b) rfl (List.Mem.tail _ (List.Mem.tail _ (List.Mem.tail _ (List.Mem.head _)))) (z_aload_n X (x := A 179) rfl (List.Mem.head _) (z_getI X 179 rfl (c518_ok rfl) rfl rfl ?_))
      have b1002 := bi_90 I
      refine z_icmp_ge X (t := 88) rfl rfl ⟨by first | exact oq_9d8ce83d hi.2.2.1.1 hi.2.1.1 | omega, by first | exact oq_39d2cc6e hi.2.2.1.2 b1.2 | omega⟩ (rng_to _) (fun g1003 => ?_) (fun g1003 => ?_)
      ·
        refine WS_pq [0, 1, 2, 3] (lv' := [(0, .ref (A 179)), (1, .int (Int32.ofInt xv)), (2, .int (Int32.ofInt a)), (3, .int (Int32.ofInt b))]) rfl ?_
        exact kx _ b I F jjRLx jjMDJ jjNQ jjNWL jjNWE hq (by first | exact ⟨And.intro (hi.1.1) (And.intro (hi.1.2.1) (hi.1.2.2)), And.intro (hi.2.1.1) (hi.2.1.2), oq_537ca82a hi.2.2.1.2 g1003 hi.2.2.2, hi.2.2.2⟩ | omega)
      ·
        have hxl := xp_li (a := (a : Int).toNat) (b := (b : Int).toNat) (c := (xv : Int).toNat) jjMDJ (by omega) (by omega) (by omega)
        rw [show (((xv : Int).toNat : Nat) : Int) = x by omega] at hxl
        refine z_aload_n X (x := A 179) rfl (List.Mem.head _) (s_getR X 179 rfl (c518_ok rfl) rfl rfl (z_load_n X (x := a) rfl (List.Mem.tail _ (List.Mem.tail _ (List.Mem.head _))) (z_aald X rw_202 rfl (by first | exact hi.2.1.1 | omega) (show a < 12 by first | exact oq_f36e82a8 hi.2.1.2 b1.2 | omega) (by decide) (z_load_n X (x := xv) rfl (List.Mem.tail _ (List.Mem.head _)) (z_ald2 X rw_202 rfl (show (a : Int).toNat < 12 by first | exact oq_2dac6850 hi.2.1.2 b1.2 | omega) (by first | exact oq_e4757433 hi.1.1 hi.1.2.1 | omega) (show xv < 128 by first | exact oq_b797517e hi.1.1 hi.1.2.2 | omega) (by decide) ?_)))))
        have b1004 : ((-1) : Int) ≤ (iC t (178 + (a : Int).toNat) (xv : Int).toNat) ∧ (iC t (178 + (a : Int).toNat) (xv : Int).toNat) ≤ 23 := rw_bd rw_202 I (show (a : Int).toNat < 12 by first | exact oq_2dac6850 hi.2.1.2 b1.2 | omega) (show (xv : Int).toNat < 128 by first | exact oq_321c4dd9 hi.1.1 hi.1.2.2 | omega)
        refine z_const X rfl (z_icmp_eq X (t := 82) rfl rfl (rng_to _) (by decide) (fun g1005 => ?_) (fun g1005 => ?_))
        ·
          refine z_inc X (x := b) (lv' := [(3, .int (Int32.ofInt (b + 1))), (0, .ref (A 179)), (1, .int (Int32.ofInt xv)), (2, .int (Int32.ofInt a))]) rfl (by decide) (List.Mem.tail _ (List.Mem.tail _ (List.Mem.tail _ (List.Mem.head _)))) (fun _ h => h) (z_goto X (t := 19) rfl rfl (WS_pq [1, 2, 3, 0] (lv' := [(0, .ref (A 179)), (1, .int (Int32.ofInt xv)), (2, .int (Int32.ofInt a)), (3, .int (Int32.ofInt (b + 1)))]) rfl ?_))
          exact ih _ xv a (b + 1) I F jjRLx jjMDJ jjNQ jjNWL jjNWE (nxi_up hq (by omega) (hxl.1 (by omega))) (by first | exact ⟨And.intro (hi.1.1) (And.intro (hi.1.2.1) (hi.1.2.2)), And.intro (hi.2.1.1) (hi.2.1.2), And.intro (oq_d130ae0d hi.2.2.1.1) (oq_8a89b3ae g1003 hi.2.2.2), hi.2.2.2⟩ | omega) (by first | exact qk_me hm (by decide) (oq_b575e8c1 g1003 b1002.2) | omega) kx
        ·
          refine z_aload_n X (x := A 179) rfl (List.Mem.head _) (s_getR X 179 rfl (c518_ok rfl) rfl rfl (z_load_n X (x := b) rfl (List.Mem.tail _ (List.Mem.tail _ (List.Mem.tail _ (List.Mem.head _)))) (z_aald X rw_202 rfl (by first | exact oq_e4c35dd7 hi.2.2.1.1 hi.2.1.1 | omega) (show b < 12 by first | exact oq_f36e82a8 g1003 b1002.2 | omega) (by decide) (z_load_n X (x := xv) rfl (List.Mem.tail _ (List.Mem.head _)) (z_ald2 X rw_202 rfl (show (b : Int).toNat < 12 by first | exact oq_2dac6850 g1003 b1002.2 | omega) (by first | exact oq_e4757433 hi.1.1 hi.1.2.1 | omega) (show xv < 128 by first | exact oq_b797517e hi.1.1 hi.1.2.2 | omega) (by decide) ?_)))))
          have b1006 : ((-1) : Int) ≤ (iC t (178 + (b : Int).toNat) (xv : Int).toNat) ∧ (iC t (178 + (b : Int).toNat) (xv : Int).toNat) ≤ 23 := rw_bd rw_202 I (show (b : Int).toNat < 12 by first | exact oq_2dac6850 g1003 b1002.2 | omega) (show (xv : Int).toNat < 128 by first | exact oq_321c4dd9 hi.1.1 hi.1.2.2 | omega)
          refine z_const X rfl (z_icmp_eq X (t := 82) rfl rfl (rng_to _) (by decide) (fun g1007 => ?_) (fun g1007 => ?_))
          ·
            refine z_inc X (x := b) (lv' := [(3, .int (Int32.ofInt (b + 1))), (0, .ref (A 179)), (1, .int (Int32.ofInt xv)), (2, .int (Int32.ofInt a))]) rfl (by decide) (List.Mem.tail _ (List.Mem.tail _ (List.Mem.tail _ (List.Mem.head _)))) (fun _ h => h) (z_goto X (t := 19) rfl rfl (WS_pq [1, 2, 3, 0] (lv' := [(0, .ref (A 179)), (1, .int (Int32.ofInt xv)), (2, .int (Int32.ofInt a)), (3, .int (Int32.ofInt (b + 1)))]) rfl ?_))
            exact ih _ xv a (b + 1) I F jjRLx jjMDJ jjNQ jjNWL jjNWE (nxi_up hq (by first | (clear g1005; omega) | omega) (hxl.2.1 (by first | (clear g1005; omega) | omega))) (by first | exact ⟨And.intro (hi.1.1) (And.intro (hi.1.2.1) (hi.1.2.2)), And.intro (hi.2.1.1) (hi.2.1.2), And.intro (oq_d130ae0d hi.2.2.1.1) (oq_8a89b3ae g1003 hi.2.2.2), hi.2.2.2⟩ | omega) (by first | exact qk_me hm (by decide) (oq_b575e8c1 g1003 b1002.2) | omega) kx
          ·
            have hxm := hxl.2.2 (by first | (clear g1007 g1005; omega) | (clear g1005; omega) | omega) (by first | (clear g1007 g1005; omega) | (clear g1005; omega) | omega)
            have hxa := hxm.1
            have hxb := hxm.2
            refine z_aload_n X (x := A 179) rfl (List.Mem.head _) (z_load_n X (x := a) rfl (List.Mem.tail _ (List.Mem.tail _ (List.Mem.head _))) (z_aload_n X (x := A 179) rfl (List.Mem.head _) (s_getR X 179 rfl (c518_ok rfl) rfl rfl (z_load_n X (x := a) rfl (List.Mem.tail _ (List.Mem.tail _ (List.Mem.head _))) (z_aald X rw_202 rfl (by first | exact hi.2.1.1 | omega) (show a < 12 by first | exact oq_f36e82a8 hi.2.1.2 b1.2 | omega) (by decide) (z_load_n X (x := xv) rfl (List.Mem.tail _ (List.Mem.head _)) (z_ald2 X rw_202 rfl (show (a : Int).toNat < 12 by first | exact oq_2dac6850 hi.2.1.2 b1.2 | omega) (by first | exact oq_e4757433 hi.1.1 hi.1.2.1 | omega) (show xv < 128 by first | exact oq_b797517e hi.1.1 hi.1.2.2 | omega) (by decide) ?_)))))))
            have b1008 : ((-1) : Int) ≤ (iC t (178 + (a : Int).toNat) (xv : Int).toNat) ∧ (iC t (178 + (a : Int).toNat) (xv : Int).toNat) ≤ 23 := rw_bd rw_202 I (show (a : Int).toNat < 12 by first | exact oq_2dac6850 hi.2.1.2 b1.2 | omega) (show (xv : Int).toNat < 128 by first | exact oq_321c4dd9 hi.1.1 hi.1.2.2 | omega)
            have n11009 := (jjNQ (a : Int).toNat (by first | (clear g1007 g1005; omega) | (clear g1005; omega) | omega) (by first | (clear g1007 g1005; omega) | (clear g1005; omega) | omega)).1
            have r11010 := (jjRLx (a : Int).toNat (by first | (clear g1007 g1005; omega) | (clear g1005; omega) | omega) (by first | (clear g1007 g1005; omega) | (clear g1005; omega) | omega)).2 (xv : Int).toNat (by first | (clear g1007 g1005; omega) | (clear g1005; omega) | omega)
            refine z_callV X 179 (rm := rmN 226) (As := [.int (Int32.ofInt a), .int (Int32.ofInt (iC t (178 + (a : Int).toNat) (xv : Int).toNat))]) (st := []) rfl rfl (by decide) rfl (by rw [E.1, E.2.1, E.2.2.1]; exact k_goes3 G I (by first | exact ⟨hi.2.1.1, oq_e4d7f3c5 hi.2.1.2 b1.2⟩ | omega) (by first | exact ⟨oq_5234833b b1008.1 g1005, by first | (clear g1007 g1005; omega) | (clear g1005; omega) | omega⟩ | omega)) ⟨by rw [E.2.2.2]; exact (show (rmN 226).frames + 1 ≤ (rmN 245).frames by decide), by rw [E.2.2.2]; exact (show 8 + (mNL (miB 226) + 11) + (rmN 226).locals ≤ (rmN 245).locals by decide), by rw [E.2.2.2]; exact (show 0 + (rmN 226).cells ≤ (rmN 245).cells by decide), by rw [E.2.2.2]; exact (show 0 + (rmN 226).slots ≤ (rmN 245).slots by decide)⟩ (Nat.le_of_ble_eq_true rfl) (fun vv s1011 hq => ?_) (fun ee s1011 hq => ?_)
            rotate_left
            · obtain ⟨rfl, e1012, hv, hrs1011, hps1011⟩ := hq; cases hv
            obtain ⟨rfl, e1012, hv, hrs1011, hps1011⟩ := hq
            cases hv
            show WS k 64 [(0, .ref (A 179)), (1, .int (Int32.ofInt xv)), (2, .int (Int32.ofInt a)), (3, .int (Int32.ofInt b))] [.int (Int32.ofInt e1012)] (Wd A dT t) 0 0
            refine z_aload_n X (x := A 179) rfl (List.Mem.head _) (z_load_n X (x := b) rfl (List.Mem.tail _ (List.Mem.tail _ (List.Mem.tail _ (List.Mem.head _)))) (z_aload_n X (x := A 179) rfl (List.Mem.head _) (s_getR X 179 rfl (c518_ok rfl) rfl rfl (z_load_n X (x := b) rfl (List.Mem.tail _ (List.Mem.tail _ (List.Mem.tail _ (List.Mem.head _)))) (z_aald X rw_202 rfl (by first | exact oq_e4c35dd7 hi.2.2.1.1 hi.2.1.1 | omega) (show b < 12 by first | exact oq_f36e82a8 g1003 b1002.2 | omega) (by decide) (z_load_n X (x := xv) rfl (List.Mem.tail _ (List.Mem.head _)) (z_ald2 X rw_202 rfl (show (b : Int).toNat < 12 by first | exact oq_2dac6850 g1003 b1002.2 | omega) (by first | exact oq_e4757433 hi.1.1 hi.1.2.1 | omega) (show xv < 128 by first | exact oq_b797517e hi.1.1 hi.1.2.2 | omega) (by decide) ?_)))))))
            have b1013 : ((-1) : Int) ≤ (iC t (178 + (b : Int).toNat) (xv : Int).toNat) ∧ (iC t (178 + (b : Int).toNat) (xv : Int).toNat) ≤ 23 := rw_bd rw_202 I (show (b : Int).toNat < 12 by first | exact oq_2dac6850 g1003 b1002.2 | omega) (show (xv : Int).toNat < 128 by first | exact oq_321c4dd9 hi.1.1 hi.1.2.2 | omega)
            have n11014 := (jjNQ (b : Int).toNat (by first | (clear g1007 g1005; omega) | (clear g1005; omega) | omega) (by first | (clear g1007 g1005; omega) | (clear g1005; omega) | omega)).1
            have r11015 := (jjRLx (b : Int).toNat (by first | (clear g1007 g1005; omega) | (clear g1005; omega) | omega) (by first | (clear g1007 g1005; omega) | (clear g1005; omega) | omega)).2 (xv : Int).toNat (by first | (clear g1007 g1005; omega) | (clear g1005; omega) | omega)
            refine z_callV X 179 (rm := rmN 226) (As := [.int (Int32.ofInt b), .int (Int32.ofInt (iC t (178 + (b : Int).toNat) (xv : Int).toNat))]) (st := [.int (Int32.ofInt e1012)]) rfl rfl (by decide) rfl (by rw [E.1, E.2.1, E.2.2.1]; exact k_goes3 G I (by first | exact ⟨oq_e4c35dd7 hi.2.2.1.1 hi.2.1.1, oq_e4d7f3c5 g1003 b1002.2⟩ | omega) (by first | exact ⟨oq_5234833b b1013.1 g1007, by first | (clear g1007 g1005; omega) | (clear g1005; omega) | omega⟩ | omega)) ⟨by rw [E.2.2.2]; exact (show (rmN 226).frames + 1 ≤ (rmN 245).frames by decide), by rw [E.2.2.2]; exact (show 8 + (mNL (miB 226) + 11) + (rmN 226).locals ≤ (rmN 245).locals by decide), by rw [E.2.2.2]; exact (show 0 + (rmN 226).cells ≤ (rmN 245).cells by decide), by rw [E.2.2.2]; exact (show 0 + (rmN 226).slots ≤ (rmN 245).slots by decide)⟩ (Nat.le_of_ble_eq_true rfl) (fun vv s1016 hq => ?_) (fun ee s1016 hq => ?_)
            rotate_left
            · obtain ⟨rfl, e1017, hv, hrs1016, hps1016⟩ := hq; cases hv
            obtain ⟨rfl, e1017, hv, hrs1016, hps1016⟩ := hq
            cases hv
            show WS k 77 [(0, .ref (A 179)), (1, .int (Int32.ofInt xv)), (2, .int (Int32.ofInt a)), (3, .int (Int32.ofInt b))] [.int (Int32.ofInt e1017), .int (Int32.ofInt e1012)] (Wd A dT t) 0 0
            refine z_icmp_eq X (t := 82) rfl rfl hrs1011 hrs1016 (fun g1018 => ?_) (fun g1018 => ?_)
            ·
              refine z_inc X (x := b) (lv' := [(3, .int (Int32.ofInt (b + 1))), (0, .ref (A 179)), (1, .int (Int32.ofInt xv)), (2, .int (Int32.ofInt a))]) rfl (by decide) (List.Mem.tail _ (List.Mem.tail _ (List.Mem.tail _ (List.Mem.head _)))) (fun _ h => h) (z_goto X (t := 19) rfl rfl (WS_pq [1, 2, 3, 0] (lv' := [(0, .ref (A 179)), (1, .int (Int32.ofInt xv)), (2, .int (Int32.ofInt a)), (3, .int (Int32.ofInt (b + 1)))]) rfl ?_))
              exact ih _ xv a (b + 1) I F jjRLx jjMDJ jjNQ jjNWL jjNWE (nxi_up hq (by first | (clear g1007 g1005; omega) | (clear g1005; omega) | omega) (fun z => absurd (show goK ((uW U).1 (a : Int).toNat) ((uW U).2 (a : Int).toNat) _ = goK ((uW U).1 (b : Int).toNat) ((uW U).2 (b : Int).toNat) _ from by rw [← goe_U (x := (a : Int).toNat) jjNWE (by first | (clear g1007 g1005; omega) | (clear g1005; omega) | omega) (by first | (clear g1007 g1005; omega) | (clear g1005; omega) | omega), ← goe_U (x := (b : Int).toNat) jjNWE (by first | (clear g1007 g1005; omega) | (clear g1005; omega) | omega) (by first | (clear g1007 g1005; omega) | (clear g1005; omega) | omega), ← hps1011.1, ← hps1016.1]; omega) (hxb.mp z))) (by first | exact ⟨And.intro (hi.1.1) (And.intro (hi.1.2.1) (hi.1.2.2)), And.intro (hi.2.1.1) (hi.2.1.2), And.intro (oq_d130ae0d hi.2.2.1.1) (oq_8a89b3ae g1003 hi.2.2.2), hi.2.2.2⟩ | omega) (by first | exact qk_me hm (by decide) (oq_b575e8c1 g1003 b1002.2) | omega) kx
            ·
              refine z_const X rfl ?_
              exact w_iret X.1 q hRt (nar_ret (by first | exact Or.inr (by decide) | omega)) (ax_d X (show cdA 245 81 = some (.ireturn, 1, 0, 0, 0) from rfl)) (Nat.zero_le _) (Nat.zero_le _) ⟨_, rfl, I, F, jjRLx, 1, rfl, (by decide), Or.inl ⟨rfl, (a : Int).toNat, (b : Int).toNat, by first | (clear g1018 g1007 g1005; omega) | (clear g1007 g1005; omega) | omega, by first | (clear g1018 g1007 g1005; omega) | (clear g1007 g1005; omega) | omega, hxb.mpr (by rw [← goe_U (x := (a : Int).toNat) jjNWE (by first | (clear g1018 g1007 g1005; omega) | (clear g1007 g1005; omega) | omega) (by first | (clear g1018 g1007 g1005; omega) | (clear g1007 g1005; omega) | omega), ← goe_U (x := (b : Int).toNat) jjNWE (by first | (clear g1018 g1007 g1005; omega) | (clear g1007 g1005; omega) | omega) (by first | (clear g1018 g1007 g1005; omega) | (clear g1007 g1005; omega) | omega), ← hps1011.1, ← hps1016.1]; omega)⟩⟩
  have L7 : ∀ (n : Nat) (t : PS) (xv a : Int), Bd t → Fm [] [202, 204, 205, 206, 207, 208, 209, 210, 211, 212, 213, 214, 215, 216, 217, 218, 219, 220, 221, 222, 223, 224, 225, 226, 227, 203] s t → RLx t → MDJ U t → NQ t → NWL t → NWE U t → (NXC (uW U) (uN U) x a) → ((xv = x ∧ 0 ≤ x ∧ x ≤ 127) ∧ (0 ≤ a ∧ a ≤ iI s 90) ∧ iI t 90 = iI s 90) → (12 - a : Int).toNat < n → (∀ (t' : PS) (a' : Int), Bd t' → Fm [] [202, 204, 205, 206, 207, 208, 209, 210, 211, 212, 213, 214, 215, 216, 217, 218, 219, 220, 221, 222, 223, 224, 225, 226, 227, 203] s t' → RLx t' → MDJ U t' → NQ t' → NWL t' → NWE U t' → (NXC (uW U) (uN U) x a') → (a' = iI s 90) → WS k 94 [(0, .ref (A 179)), (1, .int (Int32.ofInt xv)), (2, .int (Int32.ofInt a'))] [] (Wd A dT t') 0 0) → WS k 7 [(0, .ref (A 179)), (1, .int (Int32.ofInt xv)), (2, .int (Int32.ofInt a))] [] (Wd A dT t) 0 0 := by
    intro n
    induction n with
    | zero =>
      intro t xv a I F jjRLx jjMDJ jjNQ jjNWL jjNWE hq hi hm kx
      exact absurd hm (Nat.not_lt_zero _)
    | succ n ih =>
      intro t xv a I F jjRLx jjMDJ jjNQ jjNWL jjNWE hq hi hm kx
      have b2001 := bi_90 I
      have hnU : iI t 90 = (uN U : Int) := jjMDJ.1.1
      refine z_load_n X (x := a) rfl (List.Mem.tail _ (List.Mem.tail _ (List.Mem.head _))) (z_aload_n X (x := A 179) rfl (List.Mem.head _) (z_getI X 179 rfl (c518_ok rfl) rfl rfl ?_))
      have b2002 := bi_90 I
      refine z_icmp_ge X (t := 94) rfl rfl ⟨by first | exact oq_fa4e5087 hi.2.1.1 | omega, by first | exact oq_39d2cc6e hi.2.1.2 b1.2 | omega⟩ (rng_to _) (fun g2003 => ?_) (fun g2003 => ?_)
      ·
        refine WS_pq [0, 1, 2] (lv' := [(0, .ref (A 179)), (1, .int (Int32.ofInt xv)), (2, .int (Int32.ofInt a))]) rfl ?_
        exact kx _ a I F jjRLx jjMDJ jjNQ jjNWL jjNWE hq (by first | exact oq_537ca82a hi.2.1.2 g2003 hi.2.2 | omega)
      ·
        refine z_load_n X (x := a) rfl (List.Mem.tail _ (List.Mem.tail _ (List.Mem.head _))) (z_const X rfl (z_add X rfl (z_store_n X (lv' := [(3, .int (Int32.ofInt (a + 1))), (0, .ref (A 179)), (1, .int (Int32.ofInt xv)), (2, .int (Int32.ofInt a))]) rfl (by decide) (fun _ h => h) (WS_pq [1, 2, 3, 0] (lv' := [(0, .ref (A 179)), (1, .int (Int32.ofInt xv)), (2, .int (Int32.ofInt a)), (3, .int (Int32.ofInt (a + 1)))]) rfl (L19 ((12 - (a + 1) : Int).toNat + 1) t xv a (a + 1) I F jjRLx jjMDJ jjNQ jjNWL jjNWE (nxi_0 hq (by omega)) (by first | exact ⟨And.intro (hi.1.1) (And.intro (hi.1.2.1) (hi.1.2.2)), And.intro (hi.2.1.1) (oq_9d1a6c71 g2003 hi.2.2), And.intro (by decide) (oq_8a89b3ae g2003 hi.2.2), hi.2.2⟩ | omega) (Nat.lt_succ_self _) ?_)))))
        intro s2004 x2005 Is2004 Fs2004 JRLx_s2004 JMDJ_s2004 JNQ_s2004 JNWL_s2004 JNWE_s2004 Qs2004 hs2004
        have b2006 := bi_90 Is2004
        refine z_inc X (x := a) (lv' := [(2, .int (Int32.ofInt (a + 1))), (0, .ref (A 179)), (1, .int (Int32.ofInt xv)), (3, .int (Int32.ofInt x2005))]) rfl (by decide) (List.Mem.tail _ (List.Mem.tail _ (List.Mem.head _))) (fun _ h => h) (z_goto X (t := 7) rfl rfl (WS_pq [1, 2, 0] (lv' := [(0, .ref (A 179)), (1, .int (Int32.ofInt xv)), (2, .int (Int32.ofInt (a + 1)))]) rfl ?_))
        exact ih _ xv (a + 1) Is2004 Fs2004 JRLx_s2004 JMDJ_s2004 JNQ_s2004 JNWL_s2004 JNWE_s2004 (nxi_x Qs2004 (by omega) (by omega)) (by first | exact ⟨And.intro (hs2004.1.1) (And.intro (hs2004.1.2.1) (hs2004.1.2.2)), And.intro (oq_54f49eb5 hs2004.2.1.1) (oq_afc84a8d hs2004.2.1.2), hs2004.2.2.2⟩ | omega) (by first | exact qk_me hm (by decide) (oq_b575e8c1 hs2004.2.1.2 b1.2) | omega) kx
  refine z_aload_n X (x := A 179) rfl (List.Mem.head _) (z_const X rfl (zcV_v2 X E 179 (As := [.int (Int32.ofInt 0)]) (st := []) rfl rfl rfl rfl (k_asTold6 G I jRLx jMDJ (by first | exact ⟨by decide, by decide⟩ | omega)) rfl (Nat.le_of_ble_eq_true rfl) (fun s2 Is2 Fs2 JRLx_s2 JNQ_s2 hps2 => ?_)))
  have Gs2 := fm_tq F Fs2 rfl rfl
  have JRLx_s2 : RLx s2 := RLx_fm Fs2 (by decide) jRLx
  have JMDJ_s2 : MDJ U s2 := MDJ_fm Fs2 (by decide) jMDJ
  have ws2_90 : iI s2 90 = iI s 90 := fm_iq Fs2 rfl
  have hNW9 := nq_w JMDJ_s2 JNQ_s2
  have hNE9 : NWE U s2 := ⟨JMDJ_s2.1.2, hNW9.1⟩
  refine z_const X rfl (z_store_n X (lv' := [(2, .int (Int32.ofInt 0)), (0, .ref (A 179)), (1, .int (Int32.ofInt x))]) rfl (by decide) (fun _ h => h) (WS_pq [1, 2, 0] (lv' := [(0, .ref (A 179)), (1, .int (Int32.ofInt x)), (2, .int (Int32.ofInt 0))]) rfl (L7 ((12 - 0 : Int).toNat + 1) s2 x 0 Is2 Gs2 JRLx_s2 JMDJ_s2 JNQ_s2 hNW9.2 hNE9 nxc_0 (by first | exact ⟨And.intro (by decide) (And.intro (p0.1) (p0.2)), And.intro (by decide) (b1.1), ws2_90⟩ | omega) (Nat.lt_succ_self _) ?_)))
  intro s4 x5 Is4 Fs4 JRLx_s4 JMDJ_s4 JNQ_s4 JNWL_s4 JNWE_s4 Qs4 hs4
  have b6 := bi_90 Is4
  refine z_const X rfl ?_
  exact w_iret X.1 q hRt (nar_ret (by first | exact Or.inl (by decide) | omega)) (ax_d X (show cdA 245 95 = some (.ireturn, 1, 0, 0, 0) from rfl)) (Nat.zero_le _) (Nat.zero_le _) ⟨_, rfl, Is4, Fs4, JRLx_s4, 0, rfl, (by decide), Or.inr ⟨rfl, nxc_no Qs4 (by omega)⟩⟩
set_option maxRecDepth 4000 in
theorem k_edge6 (G : GX l s0 D tys a0 dT) {U : AirD} (I : Bd s) (jRLx : RLx s) (jMDJ : MDJ U s) {x : Int} (p0 : rng x) : CT l s0 D A dT 246 (rmN 246) [.ref (A 179), .int (Int32.ofInt x)] s (fun o t => Bd t ∧ Fm [73] [202, 204, 205, 206, 207, 208, 209, 210, 211, 212, 213, 214, 215, 216, 217, 218, 219, 220, 221, 222, 223, 224, 225, 226, 227, 203] s t ∧ RLx t ∧ ∃ e, o = .inl (some (.int (Int32.ofInt e))) ∧ rng e ∧ (((0 ≤ x ∧ x ≤ 7) ∧ iI t 73 = 0 ∧ EGE (pcS (pfM s) x) (uW U) (uN U) e) ∨ ((x < 0 ∨ 7 < x) ∧ iI t 73 = 1))) := by
  refine ct_of G (by decide) (Nat.le_of_ble_eq_true rfl) (fun k X E hRt hXt q => ?_)
  show WS k 0 [(0, .ref (A 179)), (1, .int (Int32.ofInt x))] [] _ 0 0
  have F : Fm [73] [202, 204, 205, 206, 207, 208, 209, 210, 211, 212, 213, 214, 215, 216, 217, 218, 219, 220, 221, 222, 223, 224, 225, 226, 227, 203] s s := fm_rf _ _ s
  have b1 := bi_73 I
  have L68 : ∀ (n : Nat) (t : PS) (xv nn c iz st0 : Int), Bd t → Fm [73] [202, 204, 205, 206, 207, 208, 209, 210, 211, 212, 213, 214, 215, 216, 217, 218, 219, 220, 221, 222, 223, 224, 225, 226, 227, 203] s t → RLx t → MDJ U t → (BIZ (BSN (pfM s) x c st0) iz ∧ nn = sm (egP (pcS (pfM s) x) (uW U) (uN U)) (c : Int).toNat ∧ XCT (uW U) (uN U) c) → ((xv = x ∧ 0 ≤ x ∧ x ≤ 7) ∧ (0 ≤ nn ∧ nn ≤ c) ∧ (0 ≤ c ∧ c ≤ 127) ∧ (iz = 0 ∨ iz = 1) ∧ (0 ≤ st0 ∧ st0 ≤ 6) ∧ iI t 73 = 0) → (6 - st0 : Int).toNat < n → (∀ (t' : PS) (iz' st0' : Int), Bd t' → Fm [73] [202, 204, 205, 206, 207, 208, 209, 210, 211, 212, 213, 214, 215, 216, 217, 218, 219, 220, 221, 222, 223, 224, 225, 226, 227, 203] s t' → RLx t' → MDJ U t' → (BIZ (BSN (pfM s) x c st0') iz' ∧ nn = sm (egP (pcS (pfM s) x) (uW U) (uN U)) (c : Int).toNat ∧ XCT (uW U) (uN U) c) → ((xv = x ∧ 0 ≤ x ∧ x ≤ 7) ∧ (0 ≤ nn ∧ nn ≤ c) ∧ (0 ≤ c ∧ c ≤ 127) ∧ (iz' = 0 ∨ iz' = 1) ∧ st0' = 6 ∧ iI t' 73 = 0) → WS k 118 [(0, .ref (A 179)), (1, .int (Int32.ofInt xv)), (2, .int (Int32.ofInt nn)), (3, .int (Int32.ofInt c)), (4, .int (Int32.ofInt iz')), (5, .int (Int32.ofInt st0'))] [] (Wd A dT t') 0 0) → WS k 68 [(0, .ref (A 179)), (1, .int (Int32.ofInt xv)), (2, .int (Int32.ofInt nn)), (3, .int (Int32.ofInt c)), (4, .int (Int32.ofInt iz)), (5, .int (Int32.ofInt st0))] [] (Wd A dT t) 0 0 := by
    intro n
    induction n with
    | zero =>
      intro t xv nn c iz st0 I F jjRLx jjMDJ hq hi hm kx
      exact absurd hm (Nat.not_lt_zero _)
    | succ n ih =>
      intro t xv nn c iz st0 I F jjRLx jjMDJ hq hi hm kx
      have b1001 := bi_73 I
      refine z_load X (x := st0) rfl (List.Mem.tail _ (List.Mem.tail _ (List.Mem.tail _ (List.Mem.tail _ (List.Mem.tail _ (List.Mem.head _)))))) (z_bipush X rfl (z_icmp_ge X (t := 118) rfl rfl ⟨by first | exact oq_fa4e5087 hi.2.2.2.2.1.1 | omega, by first | exact oq_b301c3bf hi.2.2.2.2.1.2 | omega⟩ (by decide) (fun g1002 => ?_) (fun g1002 => ?_)))
      ·
        refine WS_pq [0, 1, 2, 3, 4, 5] (lv' := [(0, .ref (A 179)), (1, .int (Int32.ofInt xv)), (2, .int (Int32.ofInt nn)), (3, .int (Int32.ofInt c)), (4, .int (Int32.ofInt iz)), (5, .int (Int32.ofInt st0))]) rfl ?_
        exact kx _ iz st0 I F jjRLx jjMDJ hq (by first | exact ⟨And.intro (hi.1.1) (And.intro (hi.1.2.1) (hi.1.2.2)), And.intro (hi.2.1.1) (hi.2.1.2), And.intro (hi.2.2.1.1) (hi.2.2.1.2), hi.2.2.2.1, oq_0dbc568f hi.2.2.2.2.1.2 g1002, hi.2.2.2.2.2⟩ | omega)
      ·
        refine z_load X (x := iz) rfl (List.Mem.tail _ (List.Mem.tail _ (List.Mem.tail _ (List.Mem.tail _ (List.Mem.head _))))) (z_if_ne X (t := 105) rfl rfl ⟨by first | exact oq_bde653e9 hi.2.2.2.1 | omega, by first | exact oq_4ad2cb8b hi.2.2.2.1 | omega⟩ (fun g1003 => ?_) (fun g1003 => ?_))
        ·
          refine z_const X rfl (z_goto X (t := 110) rfl rfl (z_store X (lv' := [(4, .int (Int32.ofInt 1)), (0, .ref (A 179)), (1, .int (Int32.ofInt xv)), (2, .int (Int32.ofInt nn)), (3, .int (Int32.ofInt c)), (5, .int (Int32.ofInt st0))]) rfl (by decide) (fun _ h => h) (z_inc X (x := st0) (lv' := [(5, .int (Int32.ofInt (st0 + 1))), (4, .int (Int32.ofInt 1)), (0, .ref (A 179)), (1, .int (Int32.ofInt xv)), (2, .int (Int32.ofInt nn)), (3, .int (Int32.ofInt c))]) rfl (by decide) (List.Mem.tail _ (List.Mem.tail _ (List.Mem.tail _ (List.Mem.tail _ (List.Mem.tail _ (List.Mem.head _)))))) (fun _ h => h) (z_goto X (t := 68) rfl rfl (WS_pq [2, 3, 4, 5, 1, 0] (lv' := [(0, .ref (A 179)), (1, .int (Int32.ofInt xv)), (2, .int (Int32.ofInt nn)), (3, .int (Int32.ofInt c)), (4, .int (Int32.ofInt 1)), (5, .int (Int32.ofInt (st0 + 1)))]) rfl ?_)))))
          exact ih _ xv nn c 1 (st0 + 1) I F jjRLx jjMDJ ⟨bsn_up hq.1 (by first | (clear g1003; omega) | omega) (Or.inl ⟨rfl, Or.inl (by first | (clear g1003; omega) | omega)⟩), hq.2⟩ (by first | exact ⟨And.intro (hi.1.1) (And.intro (hi.1.2.1) (hi.1.2.2)), And.intro (hi.2.1.1) (hi.2.1.2), And.intro (hi.2.2.1.1) (hi.2.2.1.2), Or.inr (by decide), And.intro (oq_54f49eb5 hi.2.2.2.2.1.1) (oq_5bf54478 g1002), hi.2.2.2.2.2⟩ | omega) (by first | exact qk_me hm (by decide) (oq_2265a080 g1002) | omega) kx
        ·
          refine z_load_n X (x := c) rfl (List.Mem.tail _ (List.Mem.tail _ (List.Mem.tail _ (List.Mem.head _)))) (z_load X (x := st0) rfl (List.Mem.tail _ (List.Mem.tail _ (List.Mem.tail _ (List.Mem.tail _ (List.Mem.tail _ (List.Mem.head _)))))) (z_callS X (rm := rmN 190) (As := [.int (Int32.ofInt c), .int (Int32.ofInt st0)]) (st := []) rfl rfl (by rw [E.1, E.2.1, E.2.2.1]; exact k_beside2 G I (by first | exact ⟨hi.2.2.1.1, hi.2.2.1.2⟩ | omega) (by first | exact ⟨hi.2.2.2.2.1.1, oq_a4cef127 g1002⟩ | omega)) ⟨by rw [E.2.2.2]; exact (show (rmN 190).frames + 1 ≤ (rmN 246).frames by decide), by rw [E.2.2.2]; exact (show 8 + (mNL (miB 190) + 11) + (rmN 190).locals ≤ (rmN 246).locals by decide), by rw [E.2.2.2]; exact (show 0 + (rmN 190).cells ≤ (rmN 246).cells by decide), by rw [E.2.2.2]; exact (show 0 + (rmN 190).slots ≤ (rmN 246).slots by decide)⟩ (Nat.le_of_ble_eq_true rfl) (fun vv s1004 hq => ?_) (fun ee s1004 hq => ?_)))
          rotate_left
          · obtain ⟨rfl, e1005, hv, hrs1004, hps1004⟩ := hq; cases hv
          obtain ⟨rfl, e1005, hv, hrs1004, hps1004⟩ := hq
          cases hv
          show WS k 86 [(0, .ref (A 179)), (1, .int (Int32.ofInt xv)), (2, .int (Int32.ofInt nn)), (3, .int (Int32.ofInt c)), (4, .int (Int32.ofInt iz)), (5, .int (Int32.ofInt st0))] [.int (Int32.ofInt e1005)] (Wd A dT t) 0 0
          refine z_const X rfl (z_icmp_eq X (t := 109) rfl rfl hrs1004 (by decide) (fun g1006 => ?_) (fun g1006 => ?_))
          ·
            refine z_const X rfl (z_store X (lv' := [(4, .int (Int32.ofInt 0)), (0, .ref (A 179)), (1, .int (Int32.ofInt xv)), (2, .int (Int32.ofInt nn)), (3, .int (Int32.ofInt c)), (5, .int (Int32.ofInt st0))]) rfl (by decide) (fun _ h => h) (z_inc X (x := st0) (lv' := [(5, .int (Int32.ofInt (st0 + 1))), (4, .int (Int32.ofInt 0)), (0, .ref (A 179)), (1, .int (Int32.ofInt xv)), (2, .int (Int32.ofInt nn)), (3, .int (Int32.ofInt c))]) rfl (by decide) (List.Mem.tail _ (List.Mem.tail _ (List.Mem.tail _ (List.Mem.tail _ (List.Mem.tail _ (List.Mem.head _)))))) (fun _ h => h) (z_goto X (t := 68) rfl rfl (WS_pq [2, 3, 4, 5, 1, 0] (lv' := [(0, .ref (A 179)), (1, .int (Int32.ofInt xv)), (2, .int (Int32.ofInt nn)), (3, .int (Int32.ofInt c)), (4, .int (Int32.ofInt 0)), (5, .int (Int32.ofInt (st0 + 1)))]) rfl ?_))))
            exact ih _ xv nn c 0 (st0 + 1) I F jjRLx jjMDJ ⟨bsn_up hq.1 (by omega) (Or.inr ⟨rfl, by omega, Or.inl (by rw [← hps1004.1]; omega)⟩), hq.2⟩ (by first | exact ⟨And.intro (hi.1.1) (And.intro (hi.1.2.1) (hi.1.2.2)), And.intro (hi.2.1.1) (hi.2.1.2), And.intro (hi.2.2.1.1) (hi.2.2.1.2), Or.inl (by decide), And.intro (oq_54f49eb5 hi.2.2.2.2.1.1) (oq_5bf54478 g1002), hi.2.2.2.2.2⟩ | omega) (by first | exact qk_me hm (by decide) (oq_2265a080 g1002) | omega) kx
          ·
            refine z_aload_n X (x := A 179) rfl (List.Mem.head _) (s_getR X 179 rfl (c518_ok rfl) rfl rfl (z_load_n X (x := c) rfl (List.Mem.tail _ (List.Mem.tail _ (List.Mem.tail _ (List.Mem.head _)))) (z_load X (x := st0) rfl (List.Mem.tail _ (List.Mem.tail _ (List.Mem.tail _ (List.Mem.tail _ (List.Mem.tail _ (List.Mem.head _)))))) (z_callS X (rm := rmN 190) (As := [.int (Int32.ofInt c), .int (Int32.ofInt st0)]) (st := [.ref (A 256)]) rfl rfl (by rw [E.1, E.2.1, E.2.2.1]; exact k_beside2 G I (by first | exact ⟨hi.2.2.1.1, hi.2.2.1.2⟩ | omega) (by first | exact ⟨hi.2.2.2.2.1.1, oq_a4cef127 g1002⟩ | omega)) ⟨by rw [E.2.2.2]; exact (show (rmN 190).frames + 1 ≤ (rmN 246).frames by decide), by rw [E.2.2.2]; exact (show 8 + (mNL (miB 190) + 11) + (rmN 190).locals ≤ (rmN 246).locals by decide), by rw [E.2.2.2]; exact (show 0 + (rmN 190).cells ≤ (rmN 246).cells by decide), by rw [E.2.2.2]; exact (show 0 + (rmN 190).slots ≤ (rmN 246).slots by decide)⟩ (Nat.le_of_ble_eq_true rfl) (fun vv s1007 hq => ?_) (fun ee s1007 hq => ?_)))))
            rotate_left
            · obtain ⟨rfl, e1008, hv, hrs1007, hps1007⟩ := hq; cases hv
            obtain ⟨rfl, e1008, hv, hrs1007, hps1007⟩ := hq
            cases hv
            show WS k 100 [(0, .ref (A 179)), (1, .int (Int32.ofInt xv)), (2, .int (Int32.ofInt nn)), (3, .int (Int32.ofInt c)), (4, .int (Int32.ofInt iz)), (5, .int (Int32.ofInt st0))] [.int (Int32.ofInt e1008), .ref (A 256)] (Wd A dT t) 0 0
            refine z_ald X 256 rfl (c518_ok rfl) rfl (by first | exact oq_9dd6f1c4 hps1007.1 g1006 hps1004.2.1 hps1004.1 | omega) (show e1008 < 128 by first | exact oq_31b2bf10 hps1007.2.2 | omega) (cbig_ok rfl) ?_
            have b1009 := bc_228 I (show (e1008).toNat < 128 by first | exact oq_c7f4e9c1 hps1007.2.2 | omega)
            refine z_load_n X (x := xv) rfl (List.Mem.tail _ (List.Mem.head _)) (z_icmp_eq X (t := 109) rfl rfl (rng_to _) ⟨by first | exact oq_b3df2c6f hi.1.1 hi.1.2.1 | omega, by first | exact oq_b2f566bc hi.1.1 hi.1.2.2 | omega⟩ (fun g1010 => ?_) (fun g1010 => ?_))
            ·
              refine z_const X rfl (z_store X (lv' := [(4, .int (Int32.ofInt 0)), (0, .ref (A 179)), (1, .int (Int32.ofInt xv)), (2, .int (Int32.ofInt nn)), (3, .int (Int32.ofInt c)), (5, .int (Int32.ofInt st0))]) rfl (by decide) (fun _ h => h) (z_inc X (x := st0) (lv' := [(5, .int (Int32.ofInt (st0 + 1))), (4, .int (Int32.ofInt 0)), (0, .ref (A 179)), (1, .int (Int32.ofInt xv)), (2, .int (Int32.ofInt nn)), (3, .int (Int32.ofInt c))]) rfl (by decide) (List.Mem.tail _ (List.Mem.tail _ (List.Mem.tail _ (List.Mem.tail _ (List.Mem.tail _ (List.Mem.head _)))))) (fun _ h => h) (z_goto X (t := 68) rfl rfl (WS_pq [2, 3, 4, 5, 1, 0] (lv' := [(0, .ref (A 179)), (1, .int (Int32.ofInt xv)), (2, .int (Int32.ofInt nn)), (3, .int (Int32.ofInt c)), (4, .int (Int32.ofInt 0)), (5, .int (Int32.ofInt (st0 + 1)))]) rfl ?_))))
              exact ih _ xv nn c 0 (st0 + 1) I F jjRLx jjMDJ ⟨bsn_up hq.1 (by first | (clear g1006; omega) | omega) (Or.inr ⟨rfl, by first | (clear g1006; omega) | omega, Or.inr (by rw [← hps1007.1]; show iC s 228 (e1008 : Int).toNat = x; have w := (fm_c F (by decide) : iC t 228 (e1008 : Int).toNat = iC s 228 (e1008 : Int).toNat); omega)⟩), hq.2⟩ (by first | exact ⟨And.intro (hi.1.1) (And.intro (hi.1.2.1) (hi.1.2.2)), And.intro (hi.2.1.1) (hi.2.1.2), And.intro (hi.2.2.1.1) (hi.2.2.1.2), Or.inl (by decide), And.intro (oq_54f49eb5 hi.2.2.2.2.1.1) (oq_5bf54478 g1002), hi.2.2.2.2.2⟩ | omega) (by first | exact qk_me hm (by decide) (oq_2265a080 g1002) | omega) kx
            ·
              refine z_const X rfl (z_goto X (t := 110) rfl rfl (z_store X (lv' := [(4, .int (Int32.ofInt 1)), (0, .ref (A 179)), (1, .int (Int32.ofInt xv)), (2, .int (Int32.ofInt nn)), (3, .int (Int32.ofInt c)), (5, .int (Int32.ofInt st0))]) rfl (by decide) (fun _ h => h) (z_inc X (x := st0) (lv' := [(5, .int (Int32.ofInt (st0 + 1))), (4, .int (Int32.ofInt 1)), (0, .ref (A 179)), (1, .int (Int32.ofInt xv)), (2, .int (Int32.ofInt nn)), (3, .int (Int32.ofInt c))]) rfl (by decide) (List.Mem.tail _ (List.Mem.tail _ (List.Mem.tail _ (List.Mem.tail _ (List.Mem.tail _ (List.Mem.head _)))))) (fun _ h => h) (z_goto X (t := 68) rfl rfl (WS_pq [2, 3, 4, 5, 1, 0] (lv' := [(0, .ref (A 179)), (1, .int (Int32.ofInt xv)), (2, .int (Int32.ofInt nn)), (3, .int (Int32.ofInt c)), (4, .int (Int32.ofInt 1)), (5, .int (Int32.ofInt (st0 + 1)))]) rfl ?_)))))
              exact ih _ xv nn c 1 (st0 + 1) I F jjRLx jjMDJ ⟨bsn_up hq.1 (by first | (clear g1010 g1006; omega) | (clear g1006; omega) | omega) (Or.inl ⟨rfl, Or.inr ⟨by rw [← hps1004.1]; omega, by rw [← hps1007.1]; show iC s 228 (e1008 : Int).toNat ≠ x; have w := (fm_c F (by decide) : iC t 228 (e1008 : Int).toNat = iC s 228 (e1008 : Int).toNat); omega⟩⟩), hq.2⟩ (by first | exact ⟨And.intro (hi.1.1) (And.intro (hi.1.2.1) (hi.1.2.2)), And.intro (hi.2.1.1) (hi.2.1.2), And.intro (hi.2.2.1.1) (hi.2.2.1.2), Or.inr (by decide), And.intro (oq_54f49eb5 hi.2.2.2.2.1.1) (oq_5bf54478 g1002), hi.2.2.2.2.2⟩ | omega) (by first | exact qk_me hm (by decide) (oq_2265a080 g1002) | omega) kx
  have L34 : ∀ (n : Nat) (t : PS) (xv nn c : Int), Bd t → Fm [73] [202, 204, 205, 206, 207, 208, 209, 210, 211, 212, 213, 214, 215, 216, 217, 218, 219, 220, 221, 222, 223, 224, 225, 226, 227, 203] s t → RLx t → MDJ U t → (nn = sm (egP (pcS (pfM s) x) (uW U) (uN U)) (c : Int).toNat) → ((xv = x ∧ 0 ≤ x ∧ x ≤ 7) ∧ (0 ≤ nn ∧ nn ≤ c) ∧ c ≤ 128 ∧ iI t 73 = 0) → (128 - c : Int).toNat < n → (∀ (t' : PS) (nn' c' : Int), Bd t' → Fm [73] [202, 204, 205, 206, 207, 208, 209, 210, 211, 212, 213, 214, 215, 216, 217, 218, 219, 220, 221, 222, 223, 224, 225, 226, 227, 203] s t' → RLx t' → MDJ U t' → (nn' = sm (egP (pcS (pfM s) x) (uW U) (uN U)) (c' : Int).toNat) → ((0 ≤ x ∧ x ≤ 7) ∧ (0 ≤ nn' ∧ nn' ≤ 128) ∧ c' = 128 ∧ iI t' 73 = 0) → WS k 137 [(0, .ref (A 179)), (1, .int (Int32.ofInt xv)), (2, .int (Int32.ofInt nn')), (3, .int (Int32.ofInt c'))] [] (Wd A dT t') 0 0) → WS k 34 [(0, .ref (A 179)), (1, .int (Int32.ofInt xv)), (2, .int (Int32.ofInt nn)), (3, .int (Int32.ofInt c))] [] (Wd A dT t) 0 0 := by
    intro n
    induction n with
    | zero =>
      intro t xv nn c I F jjRLx jjMDJ hq hi hm kx
      exact absurd hm (Nat.not_lt_zero _)
    | succ n ih =>
      intro t xv nn c I F jjRLx jjMDJ hq hi hm kx
      have b2001 := bi_73 I
      refine z_load_n X (x := c) rfl (List.Mem.tail _ (List.Mem.tail _ (List.Mem.tail _ (List.Mem.head _)))) (z_sipush X rfl (z_icmp_ge X (t := 137) rfl rfl ⟨by first | exact oq_e001bc0d hi.2.1.2 hi.2.1.1 | omega, by first | exact oq_4ee82282 hi.2.2.1 | omega⟩ (by decide) (fun g2002 => ?_) (fun g2002 => ?_)))
      ·
        refine WS_pq [0, 1, 2, 3] (lv' := [(0, .ref (A 179)), (1, .int (Int32.ofInt xv)), (2, .int (Int32.ofInt nn)), (3, .int (Int32.ofInt c))]) rfl ?_
        exact kx _ nn c I F jjRLx jjMDJ hq (by first | exact ⟨And.intro (hi.1.2.1) (hi.1.2.2), And.intro (hi.2.1.1) (oq_c8a5794d hi.2.1.2 hi.2.2.1), oq_42fe298a hi.2.2.1 g2002, hi.2.2.2⟩ | omega)
      ·
        refine z_aload_n X (x := A 179) rfl (List.Mem.head _) (s_getR X 179 rfl (c518_ok rfl) rfl rfl (z_load_n X (x := c) rfl (List.Mem.tail _ (List.Mem.tail _ (List.Mem.tail _ (List.Mem.head _)))) (z_ald X 256 rfl (c518_ok rfl) rfl (by first | exact oq_12a1f9e1 hi.2.1.2 hi.2.1.1 | omega) (show c < 128 by first | exact g2002 | omega) (cbig_ok rfl) ?_)))
        have b2003 := bc_228 I (show (c).toNat < 128 by first | exact oq_afb89947 g2002 | omega)
        refine z_load_n X (x := xv) rfl (List.Mem.tail _ (List.Mem.head _)) (z_icmp_ne X (t := 131) rfl rfl (rng_to _) ⟨by first | exact oq_b3df2c6f hi.1.1 hi.1.2.1 | omega, by first | exact oq_b2f566bc hi.1.1 hi.1.2.2 | omega⟩ (fun g2004 => ?_) (fun g2004 => ?_))
        ·
          refine z_inc X (x := c) (lv' := [(3, .int (Int32.ofInt (c + 1))), (0, .ref (A 179)), (1, .int (Int32.ofInt xv)), (2, .int (Int32.ofInt nn))]) rfl (by decide) (List.Mem.tail _ (List.Mem.tail _ (List.Mem.tail _ (List.Mem.head _)))) (fun _ h => h) (z_goto X (t := 34) rfl rfl (WS_pq [1, 2, 3, 0] (lv' := [(0, .ref (A 179)), (1, .int (Int32.ofInt xv)), (2, .int (Int32.ofInt nn)), (3, .int (Int32.ofInt (c + 1)))]) rfl ?_))
          exact ih _ xv nn (c + 1) I F jjRLx jjMDJ (egp_n hq (by first | (clear g2004; omega) | omega) (fun z => by have y := z.1.1.2; have w := (fm_c F (by decide) : iC t 228 (c : Int).toNat = iC s 228 (c : Int).toNat); replace y : iC s 228 (c : Int).toNat = x := y; omega)) (by first | exact ⟨And.intro (hi.1.1) (And.intro (hi.1.2.1) (hi.1.2.2)), And.intro (hi.2.1.1) (oq_03182e9e hi.2.1.2), oq_d2afb425 g2002, hi.2.2.2⟩ | omega) (by first | exact qk_me hm (by decide) (oq_c268b7bd g2002) | omega) kx
        ·
          have hPc : pfM s (c : Int).toNat = x := by have w := (fm_c F (by decide) : iC t 228 (c : Int).toNat = iC s 228 (c : Int).toNat); show iC s 228 (c : Int).toNat = x; omega
          refine z_aload_n X (x := A 179) rfl (List.Mem.head _) (z_load_n X (x := c) rfl (List.Mem.tail _ (List.Mem.tail _ (List.Mem.tail _ (List.Mem.head _)))) (zcV_i1 X E 179 (As := [.int (Int32.ofInt c)]) (st := []) rfl rfl rfl rfl (k_isCrossing6 G I jjRLx jjMDJ (by first | exact ⟨oq_12a1f9e1 hi.2.1.2 hi.2.1.1, oq_04367f15 g2002⟩ | omega)) rfl (Nat.le_of_ble_eq_true rfl) (fun s2005 e2006 Is2005 Fs2005 JRLx_s2005 hrs2005 hps2005 => ?_)))
          have Gs2005 := fm_tq F Fs2005 rfl rfl
          have JRLx_s2005 : RLx s2005 := RLx_fm Fs2005 (by decide) jjRLx
          have JMDJ_s2005 : MDJ U s2005 := MDJ_fm Fs2005 (by decide) jjMDJ
          have ws2005_73 : iI s2005 73 = iI t 73 := fm_iq Fs2005 rfl
          refine z_if_ne X (t := 62) rfl rfl hrs2005 (fun g2007 => ?_) (fun g2007 => ?_)
          ·
            have hXc := or_1 hps2005 (by first | (clear g2007; omega) | omega)
            refine z_const X rfl (z_store X (lv' := [(4, .int (Int32.ofInt 0)), (0, .ref (A 179)), (1, .int (Int32.ofInt xv)), (2, .int (Int32.ofInt nn)), (3, .int (Int32.ofInt c))]) rfl (by decide) (fun _ h => h) (z_const X rfl (z_store X (lv' := [(5, .int (Int32.ofInt 0)), (4, .int (Int32.ofInt 0)), (0, .ref (A 179)), (1, .int (Int32.ofInt xv)), (2, .int (Int32.ofInt nn)), (3, .int (Int32.ofInt c))]) rfl (by decide) (fun _ h => h) (WS_pq [2, 3, 4, 5, 1, 0] (lv' := [(0, .ref (A 179)), (1, .int (Int32.ofInt xv)), (2, .int (Int32.ofInt nn)), (3, .int (Int32.ofInt c)), (4, .int (Int32.ofInt 0)), (5, .int (Int32.ofInt 0))]) rfl (L68 ((6 - 0 : Int).toNat + 1) s2005 xv nn c 0 0 Is2005 Gs2005 JRLx_s2005 JMDJ_s2005 ⟨bsn_0, hq, hXc⟩ (by first | exact ⟨And.intro (hi.1.1) (And.intro (hi.1.2.1) (hi.1.2.2)), And.intro (hi.2.1.1) (hi.2.1.2), And.intro (oq_12a1f9e1 hi.2.1.2 hi.2.1.1) (oq_04367f15 g2002), Or.inl (by decide), And.intro (by decide) (by decide), oq_333640b7 ws2005_73 hi.2.2.2 b2001.1⟩ | omega) (Nat.lt_succ_self _) ?_)))))
            intro s2008 x2009 x2010 Is2008 Fs2008 JRLx_s2008 JMDJ_s2008 Qs2008 hs2008
            have b2011 := bi_73 Is2008
            refine z_load_n X (x := nn) rfl (List.Mem.tail _ (List.Mem.tail _ (List.Mem.head _))) (z_load X (x := x2009) rfl (List.Mem.tail _ (List.Mem.tail _ (List.Mem.tail _ (List.Mem.tail _ (List.Mem.head _))))) (z_if_eq X (t := 128) rfl rfl ⟨by first | exact oq_bde653e9 hs2008.2.2.2.1 | omega, by first | exact oq_4ad2cb8b hs2008.2.2.2.1 | omega⟩ (fun g2012 => ?_) (fun g2012 => ?_)))
            ·
              refine z_const X rfl (z_add X rfl (z_store_n X (lv' := [(2, .int (Int32.ofInt (nn + 0))), (0, .ref (A 179)), (1, .int (Int32.ofInt xv)), (3, .int (Int32.ofInt c)), (4, .int (Int32.ofInt x2009)), (5, .int (Int32.ofInt x2010))]) rfl (by decide) (fun _ h => h) (z_inc X (x := c) (lv' := [(3, .int (Int32.ofInt (c + 1))), (2, .int (Int32.ofInt (nn + 0))), (0, .ref (A 179)), (1, .int (Int32.ofInt xv)), (4, .int (Int32.ofInt x2009)), (5, .int (Int32.ofInt x2010))]) rfl (by decide) (List.Mem.tail _ (List.Mem.tail _ (List.Mem.tail _ (List.Mem.head _)))) (fun _ h => h) (z_goto X (t := 34) rfl rfl (WS_pq [2, 3, 1, 0] (lv' := [(0, .ref (A 179)), (1, .int (Int32.ofInt xv)), (2, .int (Int32.ofInt (nn + 0))), (3, .int (Int32.ofInt (c + 1)))]) rfl ?_)))))
              exact ih _ xv (nn + 0) (c + 1) Is2008 Fs2008 JRLx_s2008 JMDJ_s2008 (egp_y (e := 0) Qs2008.2.1 (by first | (clear g2007; omega) | omega) Qs2008.2.2 (Or.inr ⟨rfl, fun z => absurd ((bsn_edg (by first | (clear g2007; omega) | omega) hPc).mpr z) (by have y := or_0 Qs2008.1 (by first | (clear g2007; omega) | omega); rw [show x2010 = 6 by first | (clear g2007; omega) | omega] at y; exact y)⟩)) (by first | exact ⟨And.intro (hs2008.1.1) (And.intro (hs2008.1.2.1) (hs2008.1.2.2)), And.intro (oq_590e7a3f hs2008.2.1.1) (oq_2d160f3c hs2008.2.1.2), oq_e4399267 hs2008.2.2.1.2, hs2008.2.2.2.2.2⟩ | omega) (by first | exact qk_me hm (by decide) (oq_7e05e720 hs2008.2.2.1.2) | omega) kx
            ·
              refine z_const X rfl (z_goto X (t := 129) rfl rfl (z_add X rfl (z_store_n X (lv' := [(2, .int (Int32.ofInt (nn + 1))), (0, .ref (A 179)), (1, .int (Int32.ofInt xv)), (3, .int (Int32.ofInt c)), (4, .int (Int32.ofInt x2009)), (5, .int (Int32.ofInt x2010))]) rfl (by decide) (fun _ h => h) (z_inc X (x := c) (lv' := [(3, .int (Int32.ofInt (c + 1))), (2, .int (Int32.ofInt (nn + 1))), (0, .ref (A 179)), (1, .int (Int32.ofInt xv)), (4, .int (Int32.ofInt x2009)), (5, .int (Int32.ofInt x2010))]) rfl (by decide) (List.Mem.tail _ (List.Mem.tail _ (List.Mem.tail _ (List.Mem.head _)))) (fun _ h => h) (z_goto X (t := 34) rfl rfl (WS_pq [2, 3, 1, 0] (lv' := [(0, .ref (A 179)), (1, .int (Int32.ofInt xv)), (2, .int (Int32.ofInt (nn + 1))), (3, .int (Int32.ofInt (c + 1)))]) rfl ?_))))))
              exact ih _ xv (nn + 1) (c + 1) Is2008 Fs2008 JRLx_s2008 JMDJ_s2008 (egp_y (e := 1) Qs2008.2.1 (by first | (clear g2012 g2007; omega) | (clear g2007; omega) | omega) Qs2008.2.2 (Or.inl ⟨rfl, (bsn_edg (by first | (clear g2012 g2007; omega) | (clear g2007; omega) | omega) hPc).mp (by have y := or_1 Qs2008.1 (by first | (clear g2012 g2007; omega) | (clear g2007; omega) | omega); rw [show x2010 = 6 by first | (clear g2012 g2007; omega) | (clear g2007; omega) | omega] at y; exact y)⟩)) (by first | exact ⟨And.intro (hs2008.1.1) (And.intro (hs2008.1.2.1) (hs2008.1.2.2)), And.intro (oq_54f49eb5 hs2008.2.1.1) (oq_8d48a029 hs2008.2.1.2), oq_e4399267 hs2008.2.2.1.2, hs2008.2.2.2.2.2⟩ | omega) (by first | exact qk_me hm (by decide) (oq_7e05e720 hs2008.2.2.1.2) | omega) kx
          ·
            have hXn := or_0 hps2005 (by omega)
            refine z_goto X (t := 131) rfl rfl (z_inc X (x := c) (lv' := [(3, .int (Int32.ofInt (c + 1))), (0, .ref (A 179)), (1, .int (Int32.ofInt xv)), (2, .int (Int32.ofInt nn))]) rfl (by decide) (List.Mem.tail _ (List.Mem.tail _ (List.Mem.tail _ (List.Mem.head _)))) (fun _ h => h) (z_goto X (t := 34) rfl rfl (WS_pq [1, 2, 3, 0] (lv' := [(0, .ref (A 179)), (1, .int (Int32.ofInt xv)), (2, .int (Int32.ofInt nn)), (3, .int (Int32.ofInt (c + 1)))]) rfl ?_)))
            exact ih _ xv nn (c + 1) Is2005 Gs2005 JRLx_s2005 JMDJ_s2005 (egp_n hq (by omega) (fun z => hXn z.2)) (by first | exact ⟨And.intro (hi.1.1) (And.intro (hi.1.2.1) (hi.1.2.2)), And.intro (hi.2.1.1) (oq_03182e9e hi.2.1.2), oq_d2afb425 g2002, oq_333640b7 ws2005_73 hi.2.2.2 b2001.1⟩ | omega) (by first | exact qk_me hm (by decide) (oq_c268b7bd g2002) | omega) kx
  refine z_aload_n X (x := A 179) rfl (List.Mem.head _) (z_const X rfl (s_putI X 179 rfl (c518_ok rfl) rfl rfl (by decide) rfl rfl rfl (wd_gen (fun s2 hs2 => ?_))))
  have Is2 : Bd s2 := eqB hs2 (bd_I I (show (0 : Int) ≤ 0 ∧ 0 ≤ 3 by first | exact ⟨by decide, by decide⟩ | omega) (by decide))
  have Fs2 := eqF hs2 (fm_I F (inl_ok (a := 73) rfl))
  have vs2 : iI s2 73 = 0 := eqI hs2 (iI_u (by decide))
  have fs2 : Fm [73] [] s s2 := by rw [hs2]; exact fm_I (fm_rf _ _ _) (show 73 ∈ _ by decide)
  have JRLx_s2 : RLx s2 := RLx_fm fs2 (by decide) jRLx
  have JMDJ_s2 : MDJ U s2 := MDJ_fm fs2 (by decide) jMDJ
  refine z_aload_n X (x := A 179) rfl (List.Mem.head _) (z_load_n X (x := x) rfl (List.Mem.tail _ (List.Mem.head _)) (z_const X rfl (z_bipush X rfl (z_callS X (rm := rmN 188) (As := [.int (Int32.ofInt x), .int (Int32.ofInt 0), .int (Int32.ofInt 7)]) (st := [.ref (A 179)]) rfl rfl (by rw [E.1, E.2.1, E.2.2.1]; exact k_in2 G Is2 (by first | exact ⟨p0.1, p0.2⟩ | omega) (by first | exact ⟨by decide, by decide⟩ | omega) (by first | exact ⟨by decide, by decide⟩ | omega)) ⟨by rw [E.2.2.2]; exact (show (rmN 188).frames + 1 ≤ (rmN 246).frames by decide), by rw [E.2.2.2]; exact (show 8 + (mNL (miB 188) + 11) + (rmN 188).locals ≤ (rmN 246).locals by decide), by rw [E.2.2.2]; exact (show 0 + (rmN 188).cells ≤ (rmN 246).cells by decide), by rw [E.2.2.2]; exact (show 0 + (rmN 188).slots ≤ (rmN 246).slots by decide)⟩ (Nat.le_of_ble_eq_true rfl) (fun vv s3 hq => ?_) (fun ee s3 hq => ?_)))))
  rotate_left
  · obtain ⟨rfl, e4, hv, hrs3, hps3⟩ := hq; cases hv
  obtain ⟨rfl, e4, hv, hrs3, hps3⟩ := hq
  cases hv
  show WS k 13 [(0, .ref (A 179)), (1, .int (Int32.ofInt x))] [.int (Int32.ofInt e4), .ref (A 179)] (Wd A dT s2) 0 0
  refine z_if_ne X (t := 20) rfl rfl hrs3 (fun g5 => ?_) (fun g5 => ?_)
  ·
    refine z_const X rfl (z_const X rfl (zcV_i0 X E 179 (As := [.int (Int32.ofInt 0), .int (Int32.ofInt 1)]) (st := []) rfl rfl rfl rfl (k_bad2 G Is2 (by first | exact Or.inl (by decide) | omega) (by first | exact ⟨by decide, by decide⟩ | omega)) rfl (Nat.le_of_ble_eq_true rfl) (fun s6 e7 Is6 Fs6 hrs6 hps6 => ?_)))
    have Gs6 := fm_tq Fs2 Fs6 rfl rfl
    have JRLx_s6 : RLx s6 := RLx_fm Fs6 (by decide) JRLx_s2
    have JMDJ_s6 : MDJ U s6 := MDJ_fm Fs6 (by decide) JMDJ_s2
    have b8 := bi_73 Is6
    refine z_if_eq X (t := 30) rfl rfl hrs6 (fun g9 => ?_) (fun g9 => ?_)
    ·
      refine z_const X rfl (z_store_n X (lv' := [(2, .int (Int32.ofInt 0)), (0, .ref (A 179)), (1, .int (Int32.ofInt x))]) rfl (by decide) (fun _ h => h) (z_const X rfl (z_store_n X (lv' := [(3, .int (Int32.ofInt 0)), (2, .int (Int32.ofInt 0)), (0, .ref (A 179)), (1, .int (Int32.ofInt x))]) rfl (by decide) (fun _ h => h) (WS_pq [2, 3, 1, 0] (lv' := [(0, .ref (A 179)), (1, .int (Int32.ofInt x)), (2, .int (Int32.ofInt 0)), (3, .int (Int32.ofInt 0))]) rfl (L34 ((128 - 0 : Int).toNat + 1) s6 x 0 0 Is6 Gs6 JRLx_s6 JMDJ_s6 rfl (by first | exact ⟨oq_ad204de4 g5 hps3, And.intro (by decide) (by decide), by decide, oq_93520411 b8.1 hps6 vs2⟩ | omega) (Nat.lt_succ_self _) ?_)))))
      intro s10 x11 x12 Is10 Fs10 JRLx_s10 JMDJ_s10 Qs10 hs10
      have b13 := bi_73 Is10
      refine z_load_n X (x := x11) rfl (List.Mem.tail _ (List.Mem.tail _ (List.Mem.head _))) ?_
      exact w_iret X.1 q hRt rfl (ax_d X (show cdA 246 138 = some (.ireturn, 1, 0, 0, 0) from rfl)) (Nat.zero_le _) (Nat.zero_le _) ⟨_, rfl, Is10, Fs10, JRLx_s10, x11, rfl, ⟨by first | exact oq_fa4e5087 hs10.2.1.1 | omega, by first | exact oq_4ee82282 hs10.2.1.2 | omega⟩, Or.inl ⟨by first | exact ⟨hs10.1.1, hs10.1.2⟩ | omega, by first | exact hs10.2.2.2 | omega, by have z := Qs10; rw [show x12 = 128 by first | (clear hps6 g5 hps3; omega) | (clear g5 hps3; omega) | omega] at z; exact z⟩⟩
    ·
      refine z_const X rfl ?_
      exact w_iret X.1 q hRt rfl (ax_d X (show cdA 246 29 = some (.ireturn, 1, 0, 0, 0) from rfl)) (Nat.zero_le _) (Nat.zero_le _) ⟨_, rfl, Is6, Gs6, JRLx_s6, 0, rfl, (by decide), Or.inr ⟨by first | exact oq_14bb5fe5 g9 hps6 vs2 | omega, by first | exact oq_df0d149a g9 hps6 vs2 | omega⟩⟩
  ·
    refine z_const X rfl (z_goto X (t := 21) rfl rfl (z_const X rfl (zcV_i0 X E 179 (As := [.int (Int32.ofInt 1), .int (Int32.ofInt 1)]) (st := []) rfl rfl rfl rfl (k_bad2 G Is2 (by first | exact Or.inr (by decide) | omega) (by first | exact ⟨by decide, by decide⟩ | omega)) rfl (Nat.le_of_ble_eq_true rfl) (fun s14 e15 Is14 Fs14 hrs14 hps14 => ?_))))
    have Gs14 := fm_tq Fs2 Fs14 rfl rfl
    have JRLx_s14 : RLx s14 := RLx_fm Fs14 (by decide) JRLx_s2
    have JMDJ_s14 : MDJ U s14 := MDJ_fm Fs14 (by decide) JMDJ_s2
    have b16 := bi_73 Is14
    refine z_if_eq X (t := 30) rfl rfl hrs14 (fun g17 => ?_) (fun g17 => ?_)
    ·
      refine z_const X rfl (z_store_n X (lv' := [(2, .int (Int32.ofInt 0)), (0, .ref (A 179)), (1, .int (Int32.ofInt x))]) rfl (by decide) (fun _ h => h) (z_const X rfl (z_store_n X (lv' := [(3, .int (Int32.ofInt 0)), (2, .int (Int32.ofInt 0)), (0, .ref (A 179)), (1, .int (Int32.ofInt x))]) rfl (by decide) (fun _ h => h) (WS_pq [2, 3, 1, 0] (lv' := [(0, .ref (A 179)), (1, .int (Int32.ofInt x)), (2, .int (Int32.ofInt 0)), (3, .int (Int32.ofInt 0))]) rfl (L34 ((128 - 0 : Int).toNat + 1) s14 x 0 0 Is14 Gs14 JRLx_s14 JMDJ_s14 rfl (by first | exact ⟨oq_a2dc54c2 g17 hps14 vs2, And.intro (by decide) (by decide), by decide, oq_f4d57307 g17 b16.1 hps14 vs2⟩ | omega) (Nat.lt_succ_self _) ?_)))))
      intro s18 x19 x20 Is18 Fs18 JRLx_s18 JMDJ_s18 Qs18 hs18
      have b21 := bi_73 Is18
      refine z_load_n X (x := x19) rfl (List.Mem.tail _ (List.Mem.tail _ (List.Mem.head _))) ?_
      exact w_iret X.1 q hRt rfl (ax_d X (show cdA 246 138 = some (.ireturn, 1, 0, 0, 0) from rfl)) (Nat.zero_le _) (Nat.zero_le _) ⟨_, rfl, Is18, Fs18, JRLx_s18, x19, rfl, ⟨by first | exact oq_fa4e5087 hs18.2.1.1 | omega, by first | exact oq_4ee82282 hs18.2.1.2 | omega⟩, Or.inl ⟨by first | exact ⟨hs18.1.1, hs18.1.2⟩ | omega, by first | exact hs18.2.2.2 | omega, by have z := Qs18; rw [show x20 = 128 by first | (clear hps14 hps3; omega) | (clear hps3; omega) | omega] at z; exact z⟩⟩
    ·
      refine z_const X rfl ?_
      exact w_iret X.1 q hRt rfl (ax_d X (show cdA 246 29 = some (.ireturn, 1, 0, 0, 0) from rfl)) (Nat.zero_le _) (Nat.zero_le _) ⟨_, rfl, Is14, Gs14, JRLx_s14, 0, rfl, (by decide), Or.inr ⟨by first | exact oq_2c2fe168 g5 hps3 | omega, by first | exact oq_faabd673 g17 hps14 vs2 | omega⟩⟩
end M87kg
