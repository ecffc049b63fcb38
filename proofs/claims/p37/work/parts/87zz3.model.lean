theorem oq_940075ae {a0 a1 a2 : Int} (h0 : a0 < a1) (h1 : a1 = a2) (h2 : a2 ≤ 8) : a0 < 8 := by omega
theorem oq_5f8a5a7e {a0 a1 a2 : Int} (h0 : a0 < a1) (h1 : a1 = a2) (h2 : a2 ≤ 8) : (a0 : Int).toNat < 8 := by omega
/-! Mends: model, the ways as they are mended -/
def RWX (f : Nat → Int) (z : Int) (x : Nat) (t : PS) : Prop := iC t 202 x = z ∧ (∀ k : Nat, (k : Int) < z → iC t (204 + x) k = f k) ∧ ∀ c : Nat, c < 128 → (iC t (216 + x) c = -1 ∧ ∀ k : Nat, (k : Int) < z → f k ≠ (c : Int)) ∨ ∃ k : Nat, (k : Int) < z ∧ f k = (c : Int) ∧ iC t (216 + x) c = (k : Int)
theorem rwx_told {U : AirD} {s : PS} (h : MDJ U s) (q : NQ s) {x : Nat} (hx : x < uN U) : RWX ((uW U).1 x) ((uW U).2 x) x s := by
  obtain ⟨⟨r1, r2⟩, r3, r4, r5, -⟩ := h
  obtain ⟨q1, q2, q3⟩ := q x (by omega) (by omega)
  obtain ⟨m1, m2⟩ := r3 x hx
  replace m1 : iC s 162 x = (uW U).2 x := m1
  have w := (r4 x hx).1
  refine ⟨q1.trans m1, fun k hk => ?_, fun c hc => by rw [q3 c hc]; exact r5 x c hx hc⟩
  rw [q2 k (by omega) (by rw [m1]; exact hk)]
  exact m2 k (by show (k : Int) < iC s 162 x; rw [m1]; exact hk)
/-- the ways, the mosts: whom P holds and whose mend is 1 goes round, whom P holds with another mend stays -/
noncomputable def wyC (U : AirD) (P : Nat → Prop) (md : Nat → Int) (rw' : WyS) : WyS := (fun x k => pickQ (P x ∧ md x = 1) (rw'.1 x k) ((uW U).1 x k), fun x => pickQ (P x ∧ md x = 1) (rw'.2 x) ((uW U).2 x))
noncomputable def moC (U : AirD) (P : Nat → Prop) (md : Nat → Int) (q x : Nat) : Int := pickQ (P x ∧ md x ≠ 1) 0 (uM U q x)
theorem wyc_y {U : AirD} {P : Nat → Prop} {md : Nat → Int} {w : WyS} {x : Nat} (h : P x ∧ md x = 1) : (wyC U P md w).1 x = w.1 x ∧ (wyC U P md w).2 x = w.2 x := ⟨funext (fun _ => piq_y h), piq_y h⟩
theorem wyc_n {U : AirD} {P : Nat → Prop} {md : Nat → Int} {w : WyS} {x : Nat} (h : ¬ (P x ∧ md x = 1)) : (wyC U P md w).1 x = (uW U).1 x ∧ (wyC U P md w).2 x = (uW U).2 x := ⟨funext (fun _ => piq_n h), piq_n h⟩
theorem wyc_e {U : AirD} {P P' : Nat → Prop} {md : Nat → Int} {w : WyS} {x : Nat} (h : P x ↔ P' x) : (wyC U P md w).1 x = (wyC U P' md w).1 x ∧ (wyC U P md w).2 x = (wyC U P' md w).2 x := by
  by_cases z : P x ∧ md x = 1
  · rw [(wyc_y z).1, (wyc_y z).2, (wyc_y ⟨h.mp z.1, z.2⟩).1, (wyc_y ⟨h.mp z.1, z.2⟩).2]; exact ⟨rfl, rfl⟩
  · rw [(wyc_n z).1, (wyc_n z).2, (wyc_n (fun y => z ⟨h.mpr y.1, y.2⟩)).1, (wyc_n (fun y => z ⟨h.mpr y.1, y.2⟩)).2]; exact ⟨rfl, rfl⟩
theorem moc_e {U : AirD} {P P' : Nat → Prop} {md : Nat → Int} {q x : Nat} (h : P x ↔ P' x) : moC U P md q x = moC U P' md q x := by
  by_cases z : P x ∧ md x ≠ 1
  · exact (piq_y z).trans (piq_y (show P' x ∧ md x ≠ 1 from ⟨h.mp z.1, z.2⟩)).symm
  · exact (piq_n z).trans (piq_n (show ¬ (P' x ∧ md x ≠ 1) from fun y => z ⟨h.mpr y.1, y.2⟩)).symm
def PcH (P : Nat → Prop) (c : Int) (x : Nat) : Prop := P x ∧ (cHt P x : Int) < c
theorem pch_o {P : Nat → Prop} {c : Int} {b x : Nat} (hb : P b) (e : (cHt P b : Int) = c) (hx : x ≠ b) : PcH P c x ↔ PcH P (c + 1) x := ⟨fun z => ⟨z.1, by have := z.2; omega⟩, fun z => ⟨z.1, by
  have : cHt P x ≠ cHt P b := fun w => hx (cht_inj z.1 hb w)
  have := z.2
  omega⟩⟩
def AMO (U : AirD) (P : Nat → Prop) (md : Nat → Int) (w : WyS) (q : Nat) (c : Int) (b : Nat) (t : PS) : Prop := (∀ x, x < uN U → x ≠ b → RWX ((wyC U (PcH P c) md w).1 x) ((wyC U (PcH P c) md w).2 x) x t) ∧ ∀ x, x < uN U → x ≠ b → iC t 203 x = moC U (PcH P c) md q x
def AMQ (U : AirD) (P : Nat → Prop) (md : Nat → Int) (w : WyS) (q : Nat) (c : Int) (t : PS) : Prop := (∀ x, x < uN U → RWX ((wyC U (PcH P c) md w).1 x) ((wyC U (PcH P c) md w).2 x) x t) ∧ ∀ x, x < uN U → iC t 203 x = moC U (PcH P c) md q x
theorem amq_0 {U : AirD} {P : Nat → Prop} {md : Nat → Int} {w : WyS} {q : Nat} {t : PS} (h : MDJ U t) (n : NQ t) (m : NMQ (uM U q) (uN U : Int) t) : AMQ U P md w q 0 t := ⟨fun x hx => by
  have z : ¬ (PcH P 0 x ∧ md x = 1) := fun y => by have := y.1.2; omega
  rw [(wyc_n z).1, (wyc_n z).2]; exact rwx_told h n hx, fun x hx => by
  have z : ¬ (PcH P 0 x ∧ md x ≠ 1) := fun y => by have := y.1.2; omega
  rw [show moC U (PcH P 0) md q x = uM U q x from piq_n z]; exact m x (by omega)⟩
theorem amo_of {U : AirD} {P : Nat → Prop} {md : Nat → Int} {w : WyS} {q b : Nat} {c : Int} {t : PS} (h : AMQ U P md w q c t) : AMO U P md w q c b t := ⟨fun x hx _ => h.1 x hx, fun x hx _ => h.2 x hx⟩
theorem amo_w {U : AirD} {P : Nat → Prop} {md : Nat → Int} {w : WyS} {q b a i : Nat} {c : Int} {v : Int32} {t u : PS} (h : AMO U P md w q c b t) (hn : uN U ≤ 12) (hb : b < 12) (ha : (a = 202 ∧ i = b) ∨ a = 216 + b ∨ a = 204 + b ∨ (a = 203 ∧ i = b)) (e : u = uC t a i v) : AMO U P md w q c b u := by
  have e1 : ∀ x, x ≠ b → iC u 202 x = iC t 202 x := fun x hx => by
    rw [e]
    rcases ha with ⟨h1, h2⟩ | h1 | h1 | ⟨h1, h2⟩
    · subst h1; exact iC_n (by omega)
    · exact iC_a (by omega)
    · exact iC_a (by omega)
    · exact iC_a (by omega)
  have e2 : ∀ x k, x < 12 → x ≠ b → iC u (204 + x) k = iC t (204 + x) k := fun x k hx hxb => by
    rw [e]
    rcases ha with ⟨h1, h2⟩ | h1 | h1 | ⟨h1, h2⟩ <;> exact iC_a (by omega)
  have e3 : ∀ x k, x < 12 → x ≠ b → iC u (216 + x) k = iC t (216 + x) k := fun x k hx hxb => by
    rw [e]
    rcases ha with ⟨h1, h2⟩ | h1 | h1 | ⟨h1, h2⟩ <;> exact iC_a (by omega)
  have e4 : ∀ x, x ≠ b → iC u 203 x = iC t 203 x := fun x hx => by
    rw [e]
    rcases ha with ⟨h1, h2⟩ | h1 | h1 | ⟨h1, h2⟩
    · exact iC_a (by omega)
    · exact iC_a (by omega)
    · exact iC_a (by omega)
    · subst h1; exact iC_n (by omega)
  refine ⟨fun x hx hxb => ?_, fun x hx hxb => (e4 x hxb).trans (h.2 x hx hxb)⟩
  obtain ⟨r1, r2, r3⟩ := h.1 x hx hxb
  refine ⟨(e1 x hxb).trans r1, fun k hk => (e2 x k (by omega) hxb).trans (r2 k hk), fun c hc => ?_⟩
  rw [e3 x c (by omega) hxb]; exact r3 c hc
theorem amq_up {U : AirD} {P : Nat → Prop} {md : Nat → Int} {w : WyS} {q b : Nat} {c : Int} {u : PS} (h : AMO U P md w q c b u) (hb : P b) (e : (cHt P b : Int) = c) (r : (md b = 1 ∧ RWX (w.1 b) (w.2 b) b u ∧ iC u 203 b = uM U q b) ∨ (md b ≠ 1 ∧ RWX ((uW U).1 b) ((uW U).2 b) b u ∧ iC u 203 b = 0)) : AMQ U P md w q (c + 1) u := by
  have hp : PcH P (c + 1) b := ⟨hb, by omega⟩
  refine ⟨fun x hx => ?_, fun x hx => ?_⟩
  · by_cases z : x = b
    · subst z
      rcases r with ⟨m, r1, _⟩ | ⟨m, r1, _⟩
      · rw [(wyc_y ⟨hp, m⟩).1, (wyc_y ⟨hp, m⟩).2]; exact r1
      · have n : ¬ (PcH P (c + 1) x ∧ md x = 1) := fun y => m y.2
        rw [(wyc_n n).1, (wyc_n n).2]; exact r1
    · have y := wyc_e (U := U) (md := md) (w := w) (pch_o hb e z)
      rw [← y.1, ← y.2]; exact h.1 x hx z
  · by_cases z : x = b
    · subst z
      rcases r with ⟨m, _, r1⟩ | ⟨m, _, r1⟩
      · rw [show moC U (PcH P (c + 1)) md q x = uM U q x from piq_n (fun y => y.2 m)]; exact r1
      · rw [show moC U (PcH P (c + 1)) md q x = 0 from piq_y ⟨hp, m⟩]; exact r1
    · rw [← moc_e (pch_o hb e z)]; exact h.2 x hx z
/-- the row of one that goes round, under way -/
def RLQ (f : Nat → Int) (z c : Int) (b : Nat) (t : PS) : Prop := iC t 202 b = z ∧ (∀ k : Nat, (k : Int) < c → iC t (204 + b) k = f k) ∧ ∀ d : Nat, d < 128 → (iC t (216 + b) d = -1 ∧ ∀ k : Nat, (k : Int) < c → f k ≠ (d : Int)) ∨ ∃ k : Nat, (k : Int) < c ∧ f k = (d : Int) ∧ iC t (216 + b) d = (k : Int)
theorem rlq_0 {f : Nat → Int} {z : Int} {b : Nat} {t : PS} (h1 : iC t 202 b = z) (h2 : ∀ d : Nat, d < 128 → iC t (216 + b) d = -1) : RLQ f z 0 b t := ⟨h1, fun k hk => absurd hk (by omega), fun d hd => Or.inl ⟨h2 d hd, fun k hk => absurd hk (by omega)⟩⟩
theorem rlq_up {f : Nat → Int} {z c : Int} {b : Nat} {t u r : PS} (h : RLQ f z c b t) (c0 : 0 ≤ c ∧ c < 24) (hb : b < 12) (f0 : 0 ≤ f c.toNat ∧ f c.toNat ≤ 127) (e1 : u = uC t (204 + b) c.toNat (Int32.ofInt (f c.toNat))) (e2 : r = uC u (216 + b) (f c.toNat).toNat (Int32.ofInt c)) : RLQ f z (c + 1) b r := by
  obtain ⟨h1, h2, h3⟩ := h
  refine ⟨by rw [e2, iC_a (by omega), e1, iC_a (by omega)]; exact h1, fun k hk => ?_, fun d hd => ?_⟩
  · rw [e2, iC_a (by omega), e1]
    by_cases y : k = c.toNat
    · rw [y]; exact iC_u ⟨by omega, by omega⟩
    · rw [iC_n y]; exact h2 k (by omega)
  · by_cases y : d = (f c.toNat).toNat
    · refine Or.inr ⟨c.toNat, by omega, by omega, ?_⟩
      rw [e2, y, iC_u ⟨by omega, by omega⟩]; omega
    · have e : iC r (216 + b) d = iC t (216 + b) d := by rw [e2, iC_n y, e1]; exact iC_a (by omega)
      rw [e]
      rcases h3 d hd with ⟨a1, a2⟩ | ⟨k, k1, k2, k3⟩
      · refine Or.inl ⟨a1, fun k hk => ?_⟩
        by_cases w : k = c.toNat
        · rw [w]; omega
        · exact a2 k (by omega)
      · exact Or.inr ⟨k, by omega, k2, k3⟩
theorem rlq_e {f : Nat → Int} {z c : Int} {b : Nat} {t : PS} (h : RLQ f z c b t) (hc : c = z) : RWX f z b t := by rw [hc] at h; exact h
/-- the end: what the model hears is the mended air -/
noncomputable def uC9 (U : AirD) (w : WyS) : AirD := (U.1, w, U.2.2)
theorem am_e {U : AirD} {P : Nat → Prop} {md : Nat → Int} {w : WyS} {q : Nat} {c : Int} {t : PS} (h : AMQ U P md w q c t) (hn : iI t 90 = (uN U : Int) ∧ uN U ≤ 12) (hk : ∀ x, x < uN U → WOK ((wyC U (PcH P c) md w).1 x) ((wyC U (PcH P c) md w).2 x)) : NW t ∧ NWL t ∧ NWE (uC9 U (wyC U (PcH P c) md w)) t ∧ NMQ (moC U (PcH P c) md q) (uN U : Int) t := by
  refine ⟨fun x hx hs => ?_, fun x hx hs => ?_, ⟨hn.2, fun x hx => ?_⟩, fun x hx => h.2 x (by omega)⟩
  · obtain ⟨r1, r2, r3⟩ := h.1 x (by omega)
    have k := hk x (by omega)
    refine ⟨by rw [r1]; exact k.1.1, fun c hc => ?_⟩
    rw [r1]
    have k1 := k.1.1
    rcases r3 c hc with a | ⟨j, j1, j2, j3⟩
    · rw [a.1]; omega
    · rw [j3]; exact j1
  · obtain ⟨r1, r2, r3⟩ := h.1 x (by omega)
    have k := hk x (by omega)
    unfold fwM
    rw [r1]
    refine ⟨k.1, fun j hj => by rw [r2 j hj]; exact k.2.1 j hj, fun j l hj hl e => k.2.2.2 j l hj hl (by rw [← r2 j hj, ← r2 l hl]; exact e), fun c hc => ?_⟩
    rcases r3 c hc with a | ⟨j, j1, j2, j3⟩
    · exact Or.inl ⟨a.1, fun j hj => by rw [r2 j hj]; exact a.2 j hj⟩
    · exact Or.inr ⟨j, j1, by rw [r2 j j1]; exact j2, j3⟩
  · obtain ⟨r1, r2, r3⟩ := h.1 x hx
    exact ⟨r1, fun j hj => r2 j (by replace hj : (j : Int) < iC t 202 x := hj; rw [r1] at hj; exact hj)⟩
theorem rwx_m {f : Nat → Int} {z : Int} {x i : Nat} {v : Int32} {t u : PS} (hx : x < 12) (h : RWX f z x t) (e : u = uC t 203 i v) : RWX f z x u := ⟨by rw [e, iC_a (by omega)]; exact h.1, fun k hk => by rw [e, iC_a (by omega)]; exact h.2.1 k hk, fun c hc => by rw [e, iC_a (by omega)]; exact h.2.2 c hc⟩
abbrev MD9 (s : PS) : Nat → Int := fun x => iC s 401 x
abbrev RW9 (s : PS) : WyS := (fun x k => iC s (405 + x) k, fun x => iC s 403 x)
/-- who is hit, what is chosen for them -/
def HMQ (U : AirD) (P : Nat → Prop) (s : PS) : Prop := (iI s 105 = (cHt P (uN U) : Int) ∧ iI s 105 ≤ 8) ∧ HTQ P (uN U) (fun j => iC s 400 j) ∧ ∀ x, x < uN U → P x → (1 ≤ iC s 401 x ∧ iC s 401 x ≤ 3) ∧ (iC s 401 x = 1 → WOK (fun k => iC s (405 + x) k) (iC s 403 x))
def AMB (U : AirD) (P : Nat → Prop) (md : Nat → Int) (w : WyS) (q : Nat) (c : Int) (b : Nat) (z : Int) (t : PS) : Prop := AMO U P md w q c b t ∧ iC t 202 b = z ∧ iC t 203 b = uM U q b
theorem amq_b {U : AirD} {P : Nat → Prop} {md : Nat → Int} {w : WyS} {q b : Nat} {c : Int} {t : PS} (h : AMQ U P md w q c t) (hb : b < uN U) (e : (cHt P b : Int) = c) : RWX ((uW U).1 b) ((uW U).2 b) b t ∧ iC t 203 b = uM U q b := by
  have n : ¬ PcH P c b := fun y => by have := y.2; omega
  have r := h.1 b hb
  have m := h.2 b hb
  rw [(wyc_n (fun y => n y.1)).1, (wyc_n (fun y => n y.1)).2] at r
  rw [show moC U (PcH P c) md q b = uM U q b from piq_n (fun y => n y.1)] at m
  exact ⟨r, m⟩
theorem amb_0 {U : AirD} {P : Nat → Prop} {md : Nat → Int} {w : WyS} {q b : Nat} {c z : Int} {t u : PS} (h : AMQ U P md w q c t) (hn : uN U ≤ 12) (hb : b < uN U) (e : (cHt P b : Int) = c) (z0 : 0 ≤ z ∧ z ≤ 24) (hu : u = uC t 202 b (Int32.ofInt z)) : AMB U P md w q c b z u := ⟨amo_w (amo_of h) hn (by omega) (Or.inl ⟨rfl, rfl⟩) hu, by rw [hu]; exact iC_u ⟨by omega, by omega⟩, by rw [hu, iC_a (by decide)]; exact (amq_b h hb e).2⟩
theorem amb_w {U : AirD} {P : Nat → Prop} {md : Nat → Int} {w : WyS} {q b a i : Nat} {c z : Int} {v : Int32} {t u : PS} (h : AMB U P md w q c b z t) (hn : uN U ≤ 12) (hb : b < 12) (ha : a = 216 + b ∨ a = 204 + b) (hu : u = uC t a i v) : AMB U P md w q c b z u := ⟨amo_w h.1 hn hb (ha.elim (fun y => Or.inr (Or.inl y)) (fun y => Or.inr (Or.inr (Or.inl y)))) hu, by rw [hu, iC_a (by omega)]; exact h.2.1, by rw [hu, iC_a (by omega)]; exact h.2.2⟩
section M87lb
variable {l : Launch} {s0 : State} {D : va_G} {tys : List (ClassId × FieldType)} {a0 : Array Value} {A : Nat → Nat} {dT : Nat → ClassId} {s : PS}
set_option maxRecDepth 4000 in
theorem k_asMended9 (G : GX l s0 D tys a0 dT) {U : AirD} {P : Nat → Prop} (I : Bd s) (jRLx : RLx s) (jMDJ : MDJ U s) {x : Int} (p0 : 0 ≤ x ∧ x ≤ 23) (p1 : HMQ U P s) : CT l s0 D A dT 284 (rmN 284) [.ref (A 179), .int (Int32.ofInt x)] s (fun o t => Bd t ∧ Fm [] [202, 204, 205, 206, 207, 208, 209, 210, 211, 212, 213, 214, 215, 216, 217, 218, 219, 220, 221, 222, 223, 224, 225, 226, 227, 203] s t ∧ RLx t ∧ o = .inl none ∧ (AMQ U P (MD9 s) (RW9 s) (x : Int).toNat (iI s 105) t)) := by
  refine ct_of G (by decide) (Nat.le_of_ble_eq_true rfl) (fun k X E hRt hXt q => ?_)
  show WS k 0 [(0, .ref (A 179)), (1, .int (Int32.ofInt x))] [] _ 0 0
  have F : Fm [] [202, 204, 205, 206, 207, 208, 209, 210, 211, 212, 213, 214, 215, 216, 217, 218, 219, 220, 221, 222, 223, 224, 225, 226, 227, 203] s s := fm_rf _ _ s
  have hst9 := jMDJ.1
  have hp9 := p1.1
  have hRD : ∀ i, i < 12 → 405 + i ∉ [202, 204, 205, 206, 207, 208, 209, 210, 211, 212, 213, 214, 215, 216, 217, 218, 219, 220, 221, 222, 223, 224, 225, 226, 227, 203] := by decide
  have b1 := bi_105 I
  have b2 := bi_90 I
  have L57 : ∀ (n : Nat) (t : PS) (xv iv bv c : Int), Bd t → Fm [] [202, 204, 205, 206, 207, 208, 209, 210, 211, 212, 213, 214, 215, 216, 217, 218, 219, 220, 221, 222, 223, 224, 225, 226, 227, 203] s t → RLx t → MDJ U t → (AMB U P (MD9 s) (RW9 s) (x : Int).toNat iv (bv : Int).toNat (iC s 403 (bv : Int).toNat) t ∧ ∀ i : Nat, i < 128 → (i : Int) < c → iC t (216 + (bv : Int).toNat) i = -1) → ((xv = x ∧ bv = iC s 400 (iv : Int).toNat) ∧ (0 ≤ bv ∧ bv ≤ 11) ∧ uN U ≤ 12 ∧ (1 ≤ iC s 403 (bv : Int).toNat ∧ iC s 403 (bv : Int).toNat ≤ 24) ∧ iC t 403 (bv : Int).toNat = iC s 403 (bv : Int).toNat ∧ iI t 105 = iI s 105 ∧ iI t 90 = iI s 90 ∧ 0 ≤ c ∧ c ≤ 128) → (128 - c : Int).toNat < n → (∀ (t' : PS) (c' : Int), Bd t' → Fm [] [202, 204, 205, 206, 207, 208, 209, 210, 211, 212, 213, 214, 215, 216, 217, 218, 219, 220, 221, 222, 223, 224, 225, 226, 227, 203] s t' → RLx t' → MDJ U t' → (AMB U P (MD9 s) (RW9 s) (x : Int).toNat iv (bv : Int).toNat (iC s 403 (bv : Int).toNat) t' ∧ ∀ i : Nat, i < 128 → (i : Int) < c' → iC t' (216 + (bv : Int).toNat) i = -1) → ((xv = x ∧ bv = iC s 400 (iv : Int).toNat) ∧ (0 ≤ bv ∧ bv ≤ 11) ∧ uN U ≤ 12 ∧ (1 ≤ iC s 403 (bv : Int).toNat ∧ iC s 403 (bv : Int).toNat ≤ 24) ∧ iC t' 403 (bv : Int).toNat = iC s 403 (bv : Int).toNat ∧ iI t' 105 = iI s 105 ∧ iI t' 90 = iI s 90 ∧ 128 ≤ c') → WS k 81 [(0, .ref (A 179)), (1, .int (Int32.ofInt xv)), (2, .int (Int32.ofInt iv)), (3, .int (Int32.ofInt bv)), (4, .int (Int32.ofInt c'))] [] (Wd A dT t') 0 0) → WS k 57 [(0, .ref (A 179)), (1, .int (Int32.ofInt xv)), (2, .int (Int32.ofInt iv)), (3, .int (Int32.ofInt bv)), (4, .int (Int32.ofInt c))] [] (Wd A dT t) 0 0 := by
    intro n
    induction n with
    | zero =>
      intro t xv iv bv c I F jjRLx jjMDJ hq hi hm kx
      exact absurd hm (Nat.not_lt_zero _)
    | succ n ih =>
      intro t xv iv bv c I F jjRLx jjMDJ hq hi hm kx
      have b1001 := bi_105 I
      have b1002 := bi_90 I
      refine z_load X (x := c) rfl (List.Mem.tail _ (List.Mem.tail _ (List.Mem.tail _ (List.Mem.tail _ (List.Mem.head _))))) (z_sipush X rfl (z_icmp_ge X (t := 81) rfl rfl ⟨by first | exact oq_fa4e5087 hi.2.2.2.2.2.2.2.1 | omega, by first | exact oq_4ee82282 hi.2.2.2.2.2.2.2.2 | omega⟩ (by decide) (fun g1003 => ?_) (fun g1003 => ?_)))
      ·
        refine WS_pq [0, 1, 2, 3, 4] (lv' := [(0, .ref (A 179)), (1, .int (Int32.ofInt xv)), (2, .int (Int32.ofInt iv)), (3, .int (Int32.ofInt bv)), (4, .int (Int32.ofInt c))]) rfl ?_
        exact kx _ c I F jjRLx jjMDJ hq (by first | exact ⟨And.intro (hi.1.1) (hi.1.2), And.intro (hi.2.1.1) (hi.2.1.2), hi.2.2.1, And.intro (hi.2.2.2.1.1) (hi.2.2.2.1.2), hi.2.2.2.2.1, hi.2.2.2.2.2.1, hi.2.2.2.2.2.2.1, g1003⟩ | omega)
      ·
        refine z_aload_n X (x := A 179) rfl (List.Mem.head _) (s_getR X 179 rfl (c518_ok rfl) rfl rfl (z_load_n X (x := bv) rfl (List.Mem.tail _ (List.Mem.tail _ (List.Mem.tail _ (List.Mem.head _)))) (z_aald X rw_243 rfl (by first | exact hi.2.1.1 | omega) (show bv < 12 by first | exact oq_0ddfcfee hi.2.1.2 | omega) (by decide) (z_load X (x := c) rfl (List.Mem.tail _ (List.Mem.tail _ (List.Mem.tail _ (List.Mem.tail _ (List.Mem.head _))))) (z_const X rfl (z_ast2 X rw_243 rfl (show (bv : Int).toNat < 12 by first | exact oq_9c5fa447 hi.2.1.2 | omega) (by first | exact hi.2.2.2.2.2.2.2.1 | omega) (show c < 128 by first | exact g1003 | omega) (by decide) (wd_gen (fun s1004 hs1004 => ?_))))))))
        have Is1004 : Bd s1004 := eqB hs1004 (rw_st rw_243 I (show (bv : Int).toNat < 12 by first | exact oq_9c5fa447 hi.2.1.2 | omega) (show ((-1) : Int) ≤ (-1) ∧ (-1) ≤ 23 by first | exact ⟨by decide, by decide⟩ | omega) (by decide))
        have Fs1004 := eqF hs1004 (fm_C (i := (c : Int).toNat) (x := Int32.ofInt (-1)) F ((show ∀ j, j < 12 → 216 + j ∈ _ by decide) (bv : Int).toNat (by first | exact oq_9c5fa447 hi.2.1.2 | omega)))
        have ws1004_105 : iI s1004 105 = iI t 105 := eqI hs1004 rfl
        have ws1004_90 : iI s1004 90 = iI t 90 := eqI hs1004 rfl
        have cw1005 : iC s1004 403 (bv).toNat = iC t 403 (bv).toNat := eqC hs1004 (iC_a (by omega))
        have fs1004 : Fm [] [216, 217, 218, 219, 220, 221, 222, 223, 224, 225, 226, 227] t s1004 := by rw [hs1004]; exact fm_C (fm_rf _ _ _) ((show ∀ j, j < 12 → 216 + j ∈ _ by decide) (bv : Int).toNat (by first | exact oq_9c5fa447 hi.2.1.2 | omega))
        have JRLx_s1004 : RLx s1004 := RLx_fm fs1004 (by decide) jjRLx
        have JMDJ_s1004 : MDJ U s1004 := MDJ_fm fs1004 (by decide) jjMDJ
        refine z_inc X (x := c) (lv' := [(4, .int (Int32.ofInt (c + 1))), (0, .ref (A 179)), (1, .int (Int32.ofInt xv)), (2, .int (Int32.ofInt iv)), (3, .int (Int32.ofInt bv))]) rfl (by decide) (List.Mem.tail _ (List.Mem.tail _ (List.Mem.tail _ (List.Mem.tail _ (List.Mem.head _))))) (fun _ h => h) (z_goto X (t := 57) rfl rfl (WS_pq [1, 2, 3, 4, 0] (lv' := [(0, .ref (A 179)), (1, .int (Int32.ofInt xv)), (2, .int (Int32.ofInt iv)), (3, .int (Int32.ofInt bv)), (4, .int (Int32.ofInt (c + 1)))]) rfl ?_))
        exact ih _ xv iv bv (c + 1) Is1004 Fs1004 JRLx_s1004 JMDJ_s1004 ⟨amb_w hq.1 (by omega) (by omega) (Or.inl rfl) hs1004, fun i hi h => by by_cases e : i = (c : Int).toNat; (· rw [e, hs1004, iC_u ⟨by omega, by omega⟩]); (· rw [hs1004, iC_n e]; exact hq.2 i hi (by omega))⟩ (by first | exact ⟨And.intro (hi.1.1) (hi.1.2), And.intro (hi.2.1.1) (hi.2.1.2), hi.2.2.1, And.intro (hi.2.2.2.1.1) (hi.2.2.2.1.2), oq_1aa5be9e cw1005 hi.2.2.2.2.1, oq_1aa5be9e ws1004_105 hi.2.2.2.2.2.1, oq_1aa5be9e ws1004_90 hi.2.2.2.2.2.2.1, oq_54f49eb5 hi.2.2.2.2.2.2.2.1, oq_d2afb425 g1003⟩ | omega) (by first | exact qk_me hm (by decide) (oq_c268b7bd g1003) | omega) kx
  have L84 : ∀ (n : Nat) (t : PS) (xv iv bv c : Int), Bd t → Fm [] [202, 204, 205, 206, 207, 208, 209, 210, 211, 212, 213, 214, 215, 216, 217, 218, 219, 220, 221, 222, 223, 224, 225, 226, 227, 203] s t → RLx t → MDJ U t → ((AMB U P (MD9 s) (RW9 s) (x : Int).toNat iv (bv : Int).toNat (iC s 403 (bv : Int).toNat) t ∧ RLQ (fun k => iC s (405 + (bv : Int).toNat) k) (iC s 403 (bv : Int).toNat) c (bv : Int).toNat t) ∧ (∀ k : Nat, (k : Int) < iC s 403 (bv : Int).toNat → 0 ≤ iC s (405 + (bv : Int).toNat) k ∧ iC s (405 + (bv : Int).toNat) k ≤ 127)) → ((xv = x ∧ bv = iC s 400 (iv : Int).toNat) ∧ (0 ≤ bv ∧ bv ≤ 11) ∧ uN U ≤ 12 ∧ (1 ≤ iC s 403 (bv : Int).toNat ∧ iC s 403 (bv : Int).toNat ≤ 24) ∧ iC t 403 (bv : Int).toNat = iC s 403 (bv : Int).toNat ∧ iI t 105 = iI s 105 ∧ iI t 90 = iI s 90 ∧ 0 ≤ c ∧ c ≤ iC s 403 (bv : Int).toNat) → (24 - c : Int).toNat < n → (∀ (t' : PS) (c' : Int), Bd t' → Fm [] [202, 204, 205, 206, 207, 208, 209, 210, 211, 212, 213, 214, 215, 216, 217, 218, 219, 220, 221, 222, 223, 224, 225, 226, 227, 203] s t' → RLx t' → MDJ U t' → ((AMB U P (MD9 s) (RW9 s) (x : Int).toNat iv (bv : Int).toNat (iC s 403 (bv : Int).toNat) t' ∧ RLQ (fun k => iC s (405 + (bv : Int).toNat) k) (iC s 403 (bv : Int).toNat) c' (bv : Int).toNat t') ∧ (∀ k : Nat, (k : Int) < iC s 403 (bv : Int).toNat → 0 ≤ iC s (405 + (bv : Int).toNat) k ∧ iC s (405 + (bv : Int).toNat) k ≤ 127)) → ((xv = x ∧ bv = iC s 400 (iv : Int).toNat) ∧ (0 ≤ bv ∧ bv ≤ 11) ∧ uN U ≤ 12 ∧ (1 ≤ iC s 403 (bv : Int).toNat ∧ iC s 403 (bv : Int).toNat ≤ 24) ∧ iC t' 403 (bv : Int).toNat = iC s 403 (bv : Int).toNat ∧ iI t' 105 = iI s 105 ∧ iI t' 90 = iI s 90 ∧ c' = iC s 403 (bv : Int).toNat) → WS k 137 [(0, .ref (A 179)), (1, .int (Int32.ofInt xv)), (2, .int (Int32.ofInt iv)), (3, .int (Int32.ofInt bv)), (4, .int (Int32.ofInt c'))] [] (Wd A dT t') 0 0) → WS k 84 [(0, .ref (A 179)), (1, .int (Int32.ofInt xv)), (2, .int (Int32.ofInt iv)), (3, .int (Int32.ofInt bv)), (4, .int (Int32.ofInt c))] [] (Wd A dT t) 0 0 := by
    intro n
    induction n with
    | zero =>
      intro t xv iv bv c I F jjRLx jjMDJ hq hi hm kx
      exact absurd hm (Nat.not_lt_zero _)
    | succ n ih =>
      intro t xv iv bv c I F jjRLx jjMDJ hq hi hm kx
      have b2001 := bi_105 I
      have b2002 := bi_90 I
      refine z_load X (x := c) rfl (List.Mem.tail _ (List.Mem.tail _ (List.Mem.tail _ (List.Mem.tail _ (List.Mem.head _))))) (z_aload_n X (x := A 179) rfl (List.Mem.head _) (s_getR X 179 rfl (c518_ok rfl) rfl rfl (z_load_n X (x := bv) rfl (List.Mem.tail _ (List.Mem.tail _ (List.Mem.tail _ (List.Mem.head _)))) (z_ald X 458 rfl (c518_ok rfl) rfl (by first | exact hi.2.1.1 | omega) (show bv < 12 by first | exact oq_0ddfcfee hi.2.1.2 | omega) (cbig_ok rfl) ?_))))
      have b2003 := bc_403 I (show (bv).toNat < 12 by first | exact oq_9c5fa447 hi.2.1.2 | omega)
      refine z_icmp_ge X (t := 137) rfl rfl ⟨by first | exact oq_fa4e5087 hi.2.2.2.2.2.2.2.1 | omega, by first | exact oq_403249cf hi.2.2.2.2.2.2.2.2 hi.2.2.2.1.2 | omega⟩ (rng_to _) (fun g2004 => ?_) (fun g2004 => ?_)
      ·
        refine WS_pq [0, 1, 2, 3, 4] (lv' := [(0, .ref (A 179)), (1, .int (Int32.ofInt xv)), (2, .int (Int32.ofInt iv)), (3, .int (Int32.ofInt bv)), (4, .int (Int32.ofInt c))]) rfl ?_
        exact kx _ c I F jjRLx jjMDJ hq (by first | exact ⟨And.intro (hi.1.1) (hi.1.2), And.intro (hi.2.1.1) (hi.2.1.2), hi.2.2.1, And.intro (hi.2.2.2.1.1) (hi.2.2.2.1.2), hi.2.2.2.2.1, hi.2.2.2.2.2.1, hi.2.2.2.2.2.2.1, oq_537ca82a hi.2.2.2.2.2.2.2.2 g2004 hi.2.2.2.2.1⟩ | omega)
      ·
        refine z_aload_n X (x := A 179) rfl (List.Mem.head _) (s_getR X 179 rfl (c518_ok rfl) rfl rfl (z_load_n X (x := bv) rfl (List.Mem.tail _ (List.Mem.tail _ (List.Mem.tail _ (List.Mem.head _)))) (z_aald X rw_230 rfl (by first | exact hi.2.1.1 | omega) (show bv < 12 by first | exact oq_0ddfcfee hi.2.1.2 | omega) (by decide) ?_)))
        have hrd : iC t (405 + (bv : Int).toNat) (c : Int).toNat = iC s (405 + (bv : Int).toNat) (c : Int).toNat := fm_c F (hRD _ (by omega))
        have hcr := hi
        refine z_load X (x := c) rfl (List.Mem.tail _ (List.Mem.tail _ (List.Mem.tail _ (List.Mem.tail _ (List.Mem.head _))))) (z_aload_n X (x := A 179) rfl (List.Mem.head _) (s_getR X 179 rfl (c518_ok rfl) rfl rfl (z_load_n X (x := bv) rfl (List.Mem.tail _ (List.Mem.tail _ (List.Mem.tail _ (List.Mem.head _)))) (z_aald X rw_460 rfl (by first | exact hi.2.1.1 | omega) (show bv < 12 by first | exact oq_0ddfcfee hi.2.1.2 | omega) (by decide) (z_load X (x := c) rfl (List.Mem.tail _ (List.Mem.tail _ (List.Mem.tail _ (List.Mem.tail _ (List.Mem.head _))))) (z_ald2 X rw_460 rfl (show (bv : Int).toNat < 12 by first | exact oq_9c5fa447 hi.2.1.2 | omega) (by first | exact hi.2.2.2.2.2.2.2.1 | omega) (show c < 24 by first | exact oq_8ff7beb9 g2004 b2003.2 | omega) (by decide) ?_))))))
        have b2005 : (0 : Int) ≤ (iC t (405 + (bv : Int).toNat) (c : Int).toNat) ∧ (iC t (405 + (bv : Int).toNat) (c : Int).toNat) ≤ 127 := rw_bd rw_460 I (show (bv : Int).toNat < 12 by first | exact oq_9c5fa447 hi.2.1.2 | omega) (show (c : Int).toNat < 24 by first | exact oq_9e668fc9 g2004 b2003.2 | omega)
        refine z_ast2 X rw_230 rfl (show (bv : Int).toNat < 12 by first | exact oq_9c5fa447 hi.2.1.2 | omega) (by first | exact hi.2.2.2.2.2.2.2.1 | omega) (show c < 24 by first | exact oq_8ff7beb9 g2004 b2003.2 | omega) (by decide) (wd_gen (fun s2006 hs2006 => ?_))
        have Is2006 : Bd s2006 := eqB hs2006 (rw_st rw_230 I (show (bv : Int).toNat < 12 by first | exact oq_9c5fa447 hi.2.1.2 | omega) (show (0 : Int) ≤ (iC t (405 + (bv : Int).toNat) (c : Int).toNat) ∧ (iC t (405 + (bv : Int).toNat) (c : Int).toNat) ≤ 127 by first | exact ⟨b2005.1, b2005.2⟩ | omega) (rng_to _))
        have Fs2006 := eqF hs2006 (fm_C (i := (c : Int).toNat) (x := Int32.ofInt (iC t (405 + (bv : Int).toNat) (c : Int).toNat)) F ((show ∀ j, j < 12 → 204 + j ∈ _ by decide) (bv : Int).toNat (by first | exact oq_9c5fa447 hi.2.1.2 | omega)))
        have ws2006_105 : iI s2006 105 = iI t 105 := eqI hs2006 rfl
        have ws2006_90 : iI s2006 90 = iI t 90 := eqI hs2006 rfl
        have cw2007 : iC s2006 403 (bv).toNat = iC t 403 (bv).toNat := eqC hs2006 (iC_a (by omega))
        have fs2006 : Fm [] [204, 205, 206, 207, 208, 209, 210, 211, 212, 213, 214, 215] t s2006 := by rw [hs2006]; exact fm_C (fm_rf _ _ _) ((show ∀ j, j < 12 → 204 + j ∈ _ by decide) (bv : Int).toNat (by first | exact oq_9c5fa447 hi.2.1.2 | omega))
        have JRLx_s2006 : RLx s2006 := RLx_fm fs2006 (by decide) jjRLx
        have JMDJ_s2006 : MDJ U s2006 := MDJ_fm fs2006 (by decide) jjMDJ
        refine z_aload_n X (x := A 179) rfl (List.Mem.head _) (s_getR X 179 rfl (c518_ok rfl) rfl rfl (z_load_n X (x := bv) rfl (List.Mem.tail _ (List.Mem.tail _ (List.Mem.tail _ (List.Mem.head _)))) (z_aald X rw_243 rfl (by first | exact hi.2.1.1 | omega) (show bv < 12 by first | exact oq_0ddfcfee hi.2.1.2 | omega) (by decide) (z_aload_n X (x := A 179) rfl (List.Mem.head _) (s_getR X 179 rfl (c518_ok rfl) rfl rfl (z_load_n X (x := bv) rfl (List.Mem.tail _ (List.Mem.tail _ (List.Mem.tail _ (List.Mem.head _)))) (z_aald X rw_460 rfl (by first | exact hi.2.1.1 | omega) (show bv < 12 by first | exact oq_0ddfcfee hi.2.1.2 | omega) (by decide) (z_load X (x := c) rfl (List.Mem.tail _ (List.Mem.tail _ (List.Mem.tail _ (List.Mem.tail _ (List.Mem.head _))))) (z_ald2 X rw_460 rfl (show (bv : Int).toNat < 12 by first | exact oq_9c5fa447 hi.2.1.2 | omega) (by first | exact hi.2.2.2.2.2.2.2.1 | omega) (show c < 24 by first | exact oq_8ff7beb9 g2004 b2003.2 | omega) (by decide) ?_)))))))))
        have b2008 : (0 : Int) ≤ (iC s2006 (405 + (bv : Int).toNat) (c : Int).toNat) ∧ (iC s2006 (405 + (bv : Int).toNat) (c : Int).toNat) ≤ 127 := rw_bd rw_460 Is2006 (show (bv : Int).toNat < 12 by first | exact oq_9c5fa447 hi.2.1.2 | omega) (show (c : Int).toNat < 24 by first | exact oq_9e668fc9 g2004 b2003.2 | omega)
        refine z_load X (x := c) rfl (List.Mem.tail _ (List.Mem.tail _ (List.Mem.tail _ (List.Mem.tail _ (List.Mem.head _))))) (z_ast2 X rw_243 rfl (show (bv : Int).toNat < 12 by first | exact oq_9c5fa447 hi.2.1.2 | omega) (by first | exact b2008.1 | omega) (show (iC s2006 (405 + (bv : Int).toNat) (c : Int).toNat) < 128 by first | exact oq_31b2bf10 b2008.2 | omega) (by decide) (wd_gen (fun s2009 hs2009 => ?_)))
        have Is2009 : Bd s2009 := eqB hs2009 (rw_st rw_243 Is2006 (show (bv : Int).toNat < 12 by first | exact oq_9c5fa447 hi.2.1.2 | omega) (show ((-1) : Int) ≤ c ∧ c ≤ 23 by first | exact ⟨oq_ca54ea22 hi.2.2.2.2.2.2.2.1, oq_10212474 g2004 b2003.2⟩ | omega) ⟨by first | exact oq_fa4e5087 hi.2.2.2.2.2.2.2.1 | omega, by first | exact oq_cd47680f g2004 b2003.2 | omega⟩)
        have Fs2009 := eqF hs2009 (fm_C (i := ((iC s2006 (405 + (bv : Int).toNat) (c : Int).toNat) : Int).toNat) (x := Int32.ofInt c) Fs2006 ((show ∀ j, j < 12 → 216 + j ∈ _ by decide) (bv : Int).toNat (by first | exact oq_9c5fa447 hi.2.1.2 | omega)))
        have ws2009_105 : iI s2009 105 = iI s2006 105 := eqI hs2009 rfl
        have ws2009_90 : iI s2009 90 = iI s2006 90 := eqI hs2009 rfl
        have cw2010 : iC s2009 403 (bv).toNat = iC s2006 403 (bv).toNat := eqC hs2009 (iC_a (by omega))
        have fs2009 : Fm [] [216, 217, 218, 219, 220, 221, 222, 223, 224, 225, 226, 227] s2006 s2009 := by rw [hs2009]; exact fm_C (fm_rf _ _ _) ((show ∀ j, j < 12 → 216 + j ∈ _ by decide) (bv : Int).toNat (by first | exact oq_9c5fa447 hi.2.1.2 | omega))
        have JRLx_s2009 : RLx s2009 := RLx_fm fs2009 (by decide) JRLx_s2006
        have JMDJ_s2009 : MDJ U s2009 := MDJ_fm fs2009 (by decide) JMDJ_s2006
        refine z_inc X (x := c) (lv' := [(4, .int (Int32.ofInt (c + 1))), (0, .ref (A 179)), (1, .int (Int32.ofInt xv)), (2, .int (Int32.ofInt iv)), (3, .int (Int32.ofInt bv))]) rfl (by decide) (List.Mem.tail _ (List.Mem.tail _ (List.Mem.tail _ (List.Mem.tail _ (List.Mem.head _))))) (fun _ h => h) (z_goto X (t := 84) rfl rfl (WS_pq [1, 2, 3, 4, 0] (lv' := [(0, .ref (A 179)), (1, .int (Int32.ofInt xv)), (2, .int (Int32.ofInt iv)), (3, .int (Int32.ofInt bv)), (4, .int (Int32.ofInt (c + 1)))]) rfl ?_))
        have hrd2 : iC s2006 (405 + (bv : Int).toNat) (c : Int).toNat = iC t (405 + (bv : Int).toNat) (c : Int).toNat := eqC hs2006 (iC_a (by omega))
        have hfc := hq.2 (c : Int).toNat (by omega)
        exact ih _ xv iv bv (c + 1) Is2009 Fs2009 JRLx_s2009 JMDJ_s2009 ⟨⟨amb_w (amb_w hq.1.1 (by omega) (by omega) (Or.inr rfl) hs2006) (by omega) (by omega) (Or.inl rfl) hs2009, rlq_up (u := s2006) hq.1.2 (by omega) (by omega) hfc (by rw [hs2006, hrd]) (by rw [hs2009, hrd2, hrd])⟩, hq.2⟩ (by first | exact ⟨And.intro (hi.1.1) (hi.1.2), And.intro (hi.2.1.1) (hi.2.1.2), hi.2.2.1, And.intro (hi.2.2.2.1.1) (hi.2.2.2.1.2), oq_878618b1 cw2010 cw2007 hi.2.2.2.2.1, oq_d0d2714e ws2009_105 hi.2.2.2.2.2.1 ws2006_105, oq_d0d2714e ws2009_90 hi.2.2.2.2.2.2.1 ws2006_90, oq_54f49eb5 hi.2.2.2.2.2.2.2.1, oq_8a89b3ae g2004 hi.2.2.2.2.1⟩ | omega) (by first | exact qk_me hm (by decide) (oq_9dea93e6 g2004 b2003.2) | omega) kx
  have L7 : ∀ (n : Nat) (t : PS) (xv iv : Int), Bd t → Fm [] [202, 204, 205, 206, 207, 208, 209, 210, 211, 212, 213, 214, 215, 216, 217, 218, 219, 220, 221, 222, 223, 224, 225, 226, 227, 203] s t → RLx t → MDJ U t → (AMQ U P (MD9 s) (RW9 s) (x : Int).toNat iv t) → (xv = x ∧ (0 ≤ iv ∧ iv ≤ iI s 105) ∧ iI s 105 ≤ 8 ∧ iI t 105 = iI s 105 ∧ iI t 90 = iI s 90 ∧ uN U ≤ 12) → (8 - iv : Int).toNat < n → (∀ (t' : PS) (iv' : Int), Bd t' → Fm [] [202, 204, 205, 206, 207, 208, 209, 210, 211, 212, 213, 214, 215, 216, 217, 218, 219, 220, 221, 222, 223, 224, 225, 226, 227, 203] s t' → RLx t' → MDJ U t' → (AMQ U P (MD9 s) (RW9 s) (x : Int).toNat iv' t') → (iv' = iI s 105) → WS k 143 [(0, .ref (A 179)), (1, .int (Int32.ofInt xv)), (2, .int (Int32.ofInt iv'))] [] (Wd A dT t') 0 0) → WS k 7 [(0, .ref (A 179)), (1, .int (Int32.ofInt xv)), (2, .int (Int32.ofInt iv))] [] (Wd A dT t) 0 0 := by
    intro n
    induction n with
    | zero =>
      intro t xv iv I F jjRLx jjMDJ hq hi hm kx
      exact absurd hm (Nat.not_lt_zero _)
    | succ n ih =>
      intro t xv iv I F jjRLx jjMDJ hq hi hm kx
      have b3001 := bi_105 I
      have b3002 := bi_90 I
      refine z_load_n X (x := iv) rfl (List.Mem.tail _ (List.Mem.tail _ (List.Mem.head _))) (z_aload_n X (x := A 179) rfl (List.Mem.head _) (z_getI X 179 rfl (c518_ok rfl) rfl rfl ?_))
      have b3003 := bi_105 I
      refine z_icmp_ge X (t := 143) rfl rfl ⟨by first | exact oq_fa4e5087 hi.2.1.1 | omega, by first | exact oq_b5dbaaed hi.2.1.2 hi.2.2.1 | omega⟩ (rng_to _) (fun g3004 => ?_) (fun g3004 => ?_)
      ·
        refine WS_pq [0, 1, 2] (lv' := [(0, .ref (A 179)), (1, .int (Int32.ofInt xv)), (2, .int (Int32.ofInt iv))]) rfl ?_
        exact kx _ iv I F jjRLx jjMDJ hq (by first | exact oq_537ca82a hi.2.1.2 g3004 hi.2.2.2.1 | omega)
      ·
        refine z_aload_n X (x := A 179) rfl (List.Mem.head _) (s_getR X 179 rfl (c518_ok rfl) rfl rfl (z_load_n X (x := iv) rfl (List.Mem.tail _ (List.Mem.tail _ (List.Mem.head _))) (z_ald X 455 rfl (c518_ok rfl) rfl (by first | exact hi.2.1.1 | omega) (show iv < 8 by first | exact oq_940075ae g3004 hi.2.2.2.1 hi.2.2.1 | omega) (cbig_ok rfl) ?_)))
        have b3005 := bc_400 I (show (iv).toNat < 8 by first | exact oq_5f8a5a7e g3004 hi.2.2.2.1 hi.2.2.1 | omega)
        refine z_store_n X (lv' := [(3, .int (Int32.ofInt (iC t 400 (iv).toNat))), (0, .ref (A 179)), (1, .int (Int32.ofInt xv)), (2, .int (Int32.ofInt iv))]) rfl (by decide) (fun _ h => h) ?_
        have hb0 : iC t 400 (iv : Int).toNat = iC s 400 (iv : Int).toNat := fm_c F (by decide)
        obtain ⟨b1, hb2, hb3, hb4, hb5⟩ := htq_at p1.2.1 (j := (iv : Int).toNat) (by have := p1.1.1; omega)
        replace hb5 : iC s 400 (iv : Int).toNat = (b1 : Int) := hb5
        have hbn : ((iC t 400 (iv).toNat) : Int).toNat = b1 := by omega
        have hm0 : iC t 401 ((iC t 400 (iv).toNat) : Int).toNat = iC s 401 ((iC t 400 (iv).toNat) : Int).toNat := fm_c F (by decide)
        have hm1 := (p1.2.2 b1 hb2 hb3).1
        rw [← hbn] at hm1
        have hr0 : iC t 403 ((iC t 400 (iv).toNat) : Int).toNat = iC s 403 ((iC t 400 (iv).toNat) : Int).toNat := fm_c F (by decide)
        have hhc : (cHt P ((iC t 400 (iv).toNat) : Int).toNat : Int) = iv := by rw [hbn]; omega
        have hbP : P ((iC t 400 (iv).toNat) : Int).toNat := by rw [hbn]; exact hb3
        have hbu : ((iC t 400 (iv).toNat) : Int).toNat < uN U := by rw [hbn]; exact hb2
        refine z_aload_n X (x := A 179) rfl (List.Mem.tail _ (List.Mem.head _)) (s_getR X 179 rfl (c518_ok rfl) rfl rfl (z_load_n X (x := (iC t 400 (iv).toNat)) rfl (List.Mem.head _) (z_ald X 456 rfl (c518_ok rfl) rfl (by first | exact b3005.1 | omega) (show (iC t 400 (iv).toNat) < 12 by first | exact oq_0ddfcfee b3005.2 | omega) (cbig_ok rfl) ?_)))
        have b3006 := bc_401 I (show ((iC t 400 (iv).toNat)).toNat < 12 by first | exact oq_9c5fa447 b3005.2 | omega)
        refine z_const X rfl (z_icmp_le X (t := 42) rfl rfl (rng_to _) (by decide) (fun g3007 => ?_) (fun g3007 => ?_))
        ·
          have hmd : iC s 401 ((iC t 400 (iv).toNat) : Int).toNat = 1 := by omega
          have hWK : WOK (fun k => iC s (405 + ((iC t 400 (iv).toNat) : Int).toNat) k) (iC s 403 ((iC t 400 (iv).toNat) : Int).toNat) := by have z := (p1.2.2 b1 hb2 hb3).2; rw [← hbn] at z; exact z hmd
          have hW1 := hWK.1
          refine z_aload_n X (x := A 179) rfl (List.Mem.tail _ (List.Mem.head _)) (s_getR X 179 rfl (c518_ok rfl) rfl rfl (z_load_n X (x := (iC t 400 (iv).toNat)) rfl (List.Mem.head _) (z_aload_n X (x := A 179) rfl (List.Mem.tail _ (List.Mem.head _)) (s_getR X 179 rfl (c518_ok rfl) rfl rfl (z_load_n X (x := (iC t 400 (iv).toNat)) rfl (List.Mem.head _) (z_ald X 458 rfl (c518_ok rfl) rfl (by first | exact b3005.1 | omega) (show (iC t 400 (iv).toNat) < 12 by first | exact oq_0ddfcfee b3005.2 | omega) (cbig_ok rfl) ?_))))))
          have b3008 := bc_403 I (show ((iC t 400 (iv).toNat)).toNat < 12 by first | exact oq_9c5fa447 b3005.2 | omega)
          refine z_ast X 228 rfl (c518_ok rfl) rfl (by first | exact b3005.1 | omega) (show (iC t 400 (iv).toNat) < 12 by first | exact oq_0ddfcfee b3005.2 | omega) (cbig_ok rfl) (wd_gen (fun s3009 hs3009 => ?_))
          have Is3009 : Bd s3009 := eqB hs3009 (bd_C I (show (0 : Int) ≤ (iC t 403 ((iC t 400 (iv).toNat)).toNat) ∧ (iC t 403 ((iC t 400 (iv).toNat)).toNat) ≤ 24 by first | exact ⟨b3008.1, b3008.2⟩ | omega) (rng_to _))
          have Fs3009 := eqF hs3009 (fm_C F (inl_ok (a := 202) rfl))
          have ws3009_105 : iI s3009 105 = iI t 105 := eqI hs3009 rfl
          have ws3009_90 : iI s3009 90 = iI t 90 := eqI hs3009 rfl
          have cw3010 : iC s3009 403 ((iC t 400 (iv).toNat)).toNat = iC t 403 ((iC t 400 (iv).toNat)).toNat := eqC hs3009 (iC_a (by omega))
          have fs3009 : Fm [] [202] t s3009 := by rw [hs3009]; exact fm_C (fm_rf _ _ _) (show 202 ∈ _ by decide)
          have JRLx_s3009 : RLx s3009 := RLx_fm fs3009 (by decide) jjRLx
          have JMDJ_s3009 : MDJ U s3009 := MDJ_fm fs3009 (by decide) jjMDJ
          refine z_const X rfl (z_store X (lv' := [(4, .int (Int32.ofInt 0)), (3, .int (Int32.ofInt (iC t 400 (iv).toNat))), (0, .ref (A 179)), (1, .int (Int32.ofInt xv)), (2, .int (Int32.ofInt iv))]) rfl (by decide) (fun _ h => h) (WS_pq [2, 3, 4, 1, 0] (lv' := [(0, .ref (A 179)), (1, .int (Int32.ofInt xv)), (2, .int (Int32.ofInt iv)), (3, .int (Int32.ofInt (iC t 400 (iv).toNat))), (4, .int (Int32.ofInt 0))]) rfl ?_))
          have hMB : AMB U P (MD9 s) (RW9 s) (x : Int).toNat iv ((iC t 400 (iv).toNat) : Int).toNat (iC s 403 ((iC t 400 (iv).toNat) : Int).toNat) s3009 := amb_0 hq (by omega) hbu hhc (by omega) (by rw [hs3009, hr0])
          refine L57 ((128 - 0 : Int).toNat + 1) s3009 xv iv (iC t 400 (iv).toNat) 0 Is3009 Fs3009 JRLx_s3009 JMDJ_s3009 ⟨hMB, fun i _ h => absurd h (by omega)⟩ (by first | exact ⟨And.intro (hi.1) (hb0), And.intro (b3005.1) (b3005.2), hi.2.2.2.2.2, by omega, oq_27118732 hr0 cw3010, oq_1aa5be9e ws3009_105 hi.2.2.2.1, oq_1aa5be9e ws3009_90 hi.2.2.2.2.1, by decide, by decide⟩ | omega) (Nat.lt_succ_self _) ?_
          intro s3011 x3012 Is3011 Fs3011 JRLx_s3011 JMDJ_s3011 Qs3011 hs3011
          have b3013 := bi_105 Is3011
          have b3014 := bi_90 Is3011
          refine z_const X rfl (z_store X (lv' := [(4, .int (Int32.ofInt 0)), (0, .ref (A 179)), (1, .int (Int32.ofInt xv)), (2, .int (Int32.ofInt iv)), (3, .int (Int32.ofInt (iC t 400 (iv).toNat)))]) rfl (by decide) (fun _ h => h) (WS_pq [1, 2, 3, 4, 0] (lv' := [(0, .ref (A 179)), (1, .int (Int32.ofInt xv)), (2, .int (Int32.ofInt iv)), (3, .int (Int32.ofInt (iC t 400 (iv).toNat))), (4, .int (Int32.ofInt 0))]) rfl (L84 ((24 - 0 : Int).toNat + 1) s3011 xv iv (iC t 400 (iv).toNat) 0 Is3011 Fs3011 JRLx_s3011 JMDJ_s3011 ⟨⟨Qs3011.1, rlq_0 Qs3011.1.2.1 (fun d hd => Qs3011.2 d hd (by omega))⟩, hWK.2.1⟩ (by first | exact ⟨And.intro (hs3011.1.1) (hs3011.1.2), And.intro (hs3011.2.1.1) (hs3011.2.1.2), hs3011.2.2.1, And.intro (hs3011.2.2.2.1.1) (hs3011.2.2.2.1.2), hs3011.2.2.2.2.1, hs3011.2.2.2.2.2.1, hs3011.2.2.2.2.2.2.1, by decide, oq_2a6e3b50 hs3011.2.2.2.1.1⟩ | omega) (Nat.lt_succ_self _) ?_)))
          intro s3015 x3016 Is3015 Fs3015 JRLx_s3015 JMDJ_s3015 Qs3015 hs3015
          have b3017 := bi_105 Is3015
          have b3018 := bi_90 Is3015
          refine z_inc X (x := iv) (lv' := [(2, .int (Int32.ofInt (iv + 1))), (0, .ref (A 179)), (1, .int (Int32.ofInt xv)), (3, .int (Int32.ofInt (iC t 400 (iv).toNat))), (4, .int (Int32.ofInt x3016))]) rfl (by decide) (List.Mem.tail _ (List.Mem.tail _ (List.Mem.head _))) (fun _ h => h) (z_goto X (t := 7) rfl rfl (WS_pq [1, 2, 0] (lv' := [(0, .ref (A 179)), (1, .int (Int32.ofInt xv)), (2, .int (Int32.ofInt (iv + 1)))]) rfl ?_))
          exact ih _ xv (iv + 1) Is3015 Fs3015 JRLx_s3015 JMDJ_s3015 (amq_up Qs3015.1.1.1 hbP hhc (Or.inl ⟨hmd, rlq_e Qs3015.1.2 (show x3016 = iC s 403 ((iC t 400 (iv).toNat) : Int).toNat by omega), Qs3015.1.1.2.2⟩)) (by first | exact ⟨hs3015.1.1, And.intro (oq_54f49eb5 hi.2.1.1) (oq_8a89b3ae g3004 hi.2.2.2.1), hi.2.2.1, hs3015.2.2.2.2.2.1, hs3015.2.2.2.2.2.2.1, hs3015.2.2.1⟩ | omega) (by first | exact qk_me hm (by decide) (oq_67fee7f6 g3004 hi.2.2.2.1 hi.2.2.1) | omega) kx
        ·
          refine z_aload_n X (x := A 179) rfl (List.Mem.tail _ (List.Mem.head _)) (s_getR X 179 rfl (c518_ok rfl) rfl rfl (z_load_n X (x := (iC t 400 (iv).toNat)) rfl (List.Mem.head _) (z_const X rfl (z_ast X 229 rfl (c518_ok rfl) rfl (by first | exact b3005.1 | omega) (show (iC t 400 (iv).toNat) < 12 by first | exact oq_0ddfcfee b3005.2 | omega) (cbig_ok rfl) (wd_gen (fun s3019 hs3019 => ?_))))))
          have Is3019 : Bd s3019 := eqB hs3019 (bd_C I (show (0 : Int) ≤ 0 ∧ 0 ≤ 50 by first | exact ⟨by decide, by decide⟩ | omega) (by decide))
          have Fs3019 := eqF hs3019 (fm_C F (inl_ok (a := 203) rfl))
          have ws3019_105 : iI s3019 105 = iI t 105 := eqI hs3019 rfl
          have ws3019_90 : iI s3019 90 = iI t 90 := eqI hs3019 rfl
          have cw3020 : iC s3019 403 ((iC t 400 (iv).toNat)).toNat = iC t 403 ((iC t 400 (iv).toNat)).toNat := eqC hs3019 (iC_a (by omega))
          have fs3019 : Fm [] [203] t s3019 := by rw [hs3019]; exact fm_C (fm_rf _ _ _) (show 203 ∈ _ by decide)
          have JRLx_s3019 : RLx s3019 := RLx_fm fs3019 (by decide) jjRLx
          have JMDJ_s3019 : MDJ U s3019 := MDJ_fm fs3019 (by decide) jjMDJ
          refine z_goto X (t := 137) rfl rfl (z_inc X (x := iv) (lv' := [(2, .int (Int32.ofInt (iv + 1))), (3, .int (Int32.ofInt (iC t 400 (iv).toNat))), (0, .ref (A 179)), (1, .int (Int32.ofInt xv))]) rfl (by decide) (List.Mem.tail _ (List.Mem.tail _ (List.Mem.tail _ (List.Mem.head _)))) (fun _ h => h) (z_goto X (t := 7) rfl rfl (WS_pq [2, 3, 0] (lv' := [(0, .ref (A 179)), (1, .int (Int32.ofInt xv)), (2, .int (Int32.ofInt (iv + 1)))]) rfl ?_)))
          exact ih _ xv (iv + 1) Is3019 Fs3019 JRLx_s3019 JMDJ_s3019 (amq_up (amo_w (amo_of hq) (by omega) (by omega) (Or.inr (Or.inr (Or.inr ⟨rfl, rfl⟩))) hs3019) hbP hhc (Or.inr ⟨(show iC s 401 ((iC t 400 (iv).toNat) : Int).toNat ≠ 1 by omega), rwx_m (by omega) (amq_b hq hbu hhc).1 hs3019, (show iC s3019 203 ((iC t 400 (iv).toNat) : Int).toNat = 0 by rw [hs3019]; exact iC_u ⟨by omega, by omega⟩)⟩)) (by first | exact ⟨hi.1, And.intro (oq_54f49eb5 hi.2.1.1) (oq_b1226e90 hi.2.2.2.1 g3004), hi.2.2.1, oq_1aa5be9e ws3019_105 hi.2.2.2.1, oq_1aa5be9e ws3019_90 hi.2.2.2.2.1, hi.2.2.2.2.2⟩ | omega) (by first | exact qk_me hm (by decide) (oq_67fee7f6 g3004 hi.2.2.2.1 hi.2.2.1) | omega) kx
  refine z_aload_n X (x := A 179) rfl (List.Mem.head _) (z_load_n X (x := x) rfl (List.Mem.tail _ (List.Mem.head _)) (zcV_v2 X E 179 (As := [.int (Int32.ofInt x)]) (st := []) rfl rfl rfl rfl (k_asTold6 G I jRLx jMDJ (by first | exact ⟨p0.1, p0.2⟩ | omega)) rfl (Nat.le_of_ble_eq_true rfl) (fun s3 Is3 Fs3 JRLx_s3 JNQ_s3 hps3 => ?_)))
  have Gs3 := fm_tq F Fs3 rfl rfl
  have JRLx_s3 : RLx s3 := RLx_fm Fs3 (by decide) jRLx
  have JMDJ_s3 : MDJ U s3 := MDJ_fm Fs3 (by decide) jMDJ
  have ws3_105 : iI s3 105 = iI s 105 := fm_iq Fs3 rfl
  have ws3_90 : iI s3 90 = iI s 90 := fm_iq Fs3 rfl
  have hA0 : AMQ U P (MD9 s) (RW9 s) (x : Int).toNat 0 s3 := amq_0 JMDJ_s3 JNQ_s3 hps3
  refine z_const X rfl (z_store_n X (lv' := [(2, .int (Int32.ofInt 0)), (0, .ref (A 179)), (1, .int (Int32.ofInt x))]) rfl (by decide) (fun _ h => h) (WS_pq [1, 2, 0] (lv' := [(0, .ref (A 179)), (1, .int (Int32.ofInt x)), (2, .int (Int32.ofInt 0))]) rfl (L7 ((8 - 0 : Int).toNat + 1) s3 x 0 Is3 Gs3 JRLx_s3 JMDJ_s3 hA0 (by first | exact ⟨by decide, And.intro (by decide) (b1.1), by omega, ws3_105, ws3_90, by omega⟩ | omega) (Nat.lt_succ_self _) ?_)))
  intro s5 x6 Is5 Fs5 JRLx_s5 JMDJ_s5 Qs5 hs5
  have b7 := bi_105 Is5
  have b8 := bi_90 Is5
  exact w_vret X.1 q hRt (ax_d X (show cdA 284 143 = some (.return_, 1, 0, 0, 0) from rfl)) (Nat.zero_le _) (Nat.zero_le _) ⟨_, rfl, Is5, Fs5, JRLx_s5, rfl, (by have z := Qs5; rw [show x6 = iI s 105 by omega] at z; exact z)⟩
end M87lb
