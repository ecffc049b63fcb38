section
/-! Mends: model, the ways as they are mended -/
def RWX (f : Nat → Int) (z : Int) (x : Nat) (t : PS) : Prop := iC t 202 x = z ∧ (∀ k : Nat, (k : Int) < z → iC t (204 + x) k = f k) ∧ ∀ c : Nat, c < 128 → (iC t (216 + x) c = -1 ∧ ∀ k : Nat, (k : Int) < z → f k ≠ (c : Int)) ∨ ∃ k : Nat, (k : Int) < z ∧ f k = (c : Int) ∧ iC t (216 + x) c = (k : Int)
theorem rwx_told {U : AirD} {s : PS} (h : MDJ U s) (q : NQ s) {x : Nat} (hx : x < uN U) : RWX ((uW U).1 x) ((uW U).2 x) x s := by
  obtain ⟨⟨r1, r2⟩, r3, r4, r5, -⟩ := h
  obtain ⟨q1, q2, q3⟩ := q x (by omega) (by omega)
  obtain ⟨m1, m2⟩ := r3 x hx
  replace m1 : iC s 162 x = (uW U).2 x := m1
  have w := (r4 x hx).1
  refine ⟨q1.trans m1, fun k hk => ?_, fun c hc => by rw [q3 c hc]; exact r5 x c hx hc⟩
  rw [q2 k (by omega) (by rw [m1]; exact hk)]
  exact m2 k (by show (k : Int) < iC s 162 x; rw [m1]; exact hk)
/-- the ways, the mosts: whom P holds and whose mend is 1 goes round, whom P holds with another mend stays -/
noncomputable def wyC (U : AirD) (P : Nat → Prop) (md : Nat → Int) (rw' : WyS) : WyS := (fun x k => pickQ (P x ∧ md x = 1) (rw'.1 x k) ((uW U).1 x k), fun x => pickQ (P x ∧ md x = 1) (rw'.2 x) ((uW U).2 x))
noncomputable def moC (U : AirD) (P : Nat → Prop) (md : Nat → Int) (q x : Nat) : Int := pickQ (P x ∧ md x ≠ 1) 0 (uM U q x)
theorem wyc_y {U : AirD} {P : Nat → Prop} {md : Nat → Int} {w : WyS} {x : Nat} (h : P x ∧ md x = 1) : (wyC U P md w).1 x = w.1 x ∧ (wyC U P md w).2 x = w.2 x := ⟨funext (fun _ => piq_y h), piq_y h⟩
theorem wyc_n {U : AirD} {P : Nat → Prop} {md : Nat → Int} {w : WyS} {x : Nat} (h : ¬ (P x ∧ md x = 1)) : (wyC U P md w).1 x = (uW U).1 x ∧ (wyC U P md w).2 x = (uW U).2 x := ⟨funext (fun _ => piq_n h), piq_n h⟩
theorem wyc_e {U : AirD} {P P' : Nat → Prop} {md : Nat → Int} {w : WyS} {x : Nat} (h : P x ↔ P' x) : (wyC U P md w).1 x = (wyC U P' md w).1 x ∧ (wyC U P md w).2 x = (wyC U P' md w).2 x := by
  by_cases z : P x ∧ md x = 1
  · rw [(wyc_y z).1, (wyc_y z).2, (wyc_y ⟨h.mp z.1, z.2⟩).1, (wyc_y ⟨h.mp z.1, z.2⟩).2]; exact ⟨rfl, rfl⟩
  · rw [(wyc_n z).1, (wyc_n z).2, (wyc_n (fun y => z ⟨h.mpr y.1, y.2⟩)).1, (wyc_n (fun y => z ⟨h.mpr y.1, y.2⟩)).2]; exact ⟨rfl, rfl⟩
theorem moc_e {U : AirD} {P P' : Nat → Prop} {md : Nat → Int} {q x : Nat} (h : P x ↔ P' x) : moC U P md q x = moC U P' md q x := by
  by_cases z : P x ∧ md x ≠ 1
  · exact (piq_y z).trans (piq_y (show P' x ∧ md x ≠ 1 from ⟨h.mp z.1, z.2⟩)).symm
  · exact (piq_n z).trans (piq_n (show ¬ (P' x ∧ md x ≠ 1) from fun y => z ⟨h.mpr y.1, y.2⟩)).symm
def PcH (P : Nat → Prop) (c : Int) (x : Nat) : Prop := P x ∧ (cHt P x : Int) < c
theorem pch_o {P : Nat → Prop} {c : Int} {b x : Nat} (hb : P b) (e : (cHt P b : Int) = c) (hx : x ≠ b) : PcH P c x ↔ PcH P (c + 1) x := ⟨fun z => ⟨z.1, by have := z.2; omega⟩, fun z => ⟨z.1, by
  have : cHt P x ≠ cHt P b := fun w => hx (cht_inj z.1 hb w)
  have := z.2
  omega⟩⟩
def AMO (U : AirD) (P : Nat → Prop) (md : Nat → Int) (w : WyS) (q : Nat) (c : Int) (b : Nat) (t : PS) : Prop := (∀ x, x < uN U → x ≠ b → RWX ((wyC U (PcH P c) md w).1 x) ((wyC U (PcH P c) md w).2 x) x t) ∧ ∀ x, x < uN U → x ≠ b → iC t 203 x = moC U (PcH P c) md q x
def AMQ (U : AirD) (P : Nat → Prop) (md : Nat → Int) (w : WyS) (q : Nat) (c : Int) (t : PS) : Prop := (∀ x, x < uN U → RWX ((wyC U (PcH P c) md w).1 x) ((wyC U (PcH P c) md w).2 x) x t) ∧ ∀ x, x < uN U → iC t 203 x = moC U (PcH P c) md q x
theorem amq_0 {U : AirD} {P : Nat → Prop} {md : Nat → Int} {w : WyS} {q : Nat} {t : PS} (h : MDJ U t) (n : NQ t) (m : NMQ (uM U q) (uN U : Int) t) : AMQ U P md w q 0 t := ⟨fun x hx => by
  have z : ¬ (PcH P 0 x ∧ md x = 1) := fun y => by have := y.1.2; omega
  rw [(wyc_n z).1, (wyc_n z).2]; exact rwx_told h n hx, fun x hx => by
  have z : ¬ (PcH P 0 x ∧ md x ≠ 1) := fun y => by have := y.1.2; omega
  rw [show moC U (PcH P 0) md q x = uM U q x from piq_n z]; exact m x (by omega)⟩
theorem amo_of {U : AirD} {P : Nat → Prop} {md : Nat → Int} {w : WyS} {q b : Nat} {c : Int} {t : PS} (h : AMQ U P md w q c t) : AMO U P md w q c b t := ⟨fun x hx _ => h.1 x hx, fun x hx _ => h.2 x hx⟩
theorem amo_w {U : AirD} {P : Nat → Prop} {md : Nat → Int} {w : WyS} {q b a i : Nat} {c : Int} {v : Int32} {t u : PS} (h : AMO U P md w q c b t) (hn : uN U ≤ 12) (hb : b < 12) (ha : (a = 202 ∧ i = b) ∨ a = 216 + b ∨ a = 204 + b ∨ (a = 203 ∧ i = b)) (e : u = uC t a i v) : AMO U P md w q c b u := by
  have e1 : ∀ x, x ≠ b → iC u 202 x = iC t 202 x := fun x hx => by
    rw [e]
    rcases ha with ⟨h1, h2⟩ | h1 | h1 | ⟨h1, h2⟩
    · subst h1; exact iC_n (by omega)
    · exact iC_a (by omega)
    · exact iC_a (by omega)
    · exact iC_a (by omega)
  have e2 : ∀ x k, x < 12 → x ≠ b → iC u (204 + x) k = iC t (204 + x) k := fun x k hx hxb => by
    rw [e]
    rcases ha with ⟨h1, h2⟩ | h1 | h1 | ⟨h1, h2⟩ <;> exact iC_a (by omega)
  have e3 : ∀ x k, x < 12 → x ≠ b → iC u (216 + x) k = iC t (216 + x) k := fun x k hx hxb => by
    rw [e]
    rcases ha with ⟨h1, h2⟩ | h1 | h1 | ⟨h1, h2⟩ <;> exact iC_a (by omega)
  have e4 : ∀ x, x ≠ b → iC u 203 x = iC t 203 x := fun x hx => by
    rw [e]
    rcases ha with ⟨h1, h2⟩ | h1 | h1 | ⟨h1, h2⟩
    · exact iC_a (by omega)
    · exact iC_a (by omega)
    · exact iC_a (by omega)
    · subst h1; exact iC_n (by omega)
  refine ⟨fun x hx hxb => ?_, fun x hx hxb => (e4 x hxb).trans (h.2 x hx hxb)⟩
  obtain ⟨r1, r2, r3⟩ := h.1 x hx hxb
  refine ⟨(e1 x hxb).trans r1, fun k hk => (e2 x k (by omega) hxb).trans (r2 k hk), fun c hc => ?_⟩
  rw [e3 x c (by omega) hxb]; exact r3 c hc
theorem amq_up {U : AirD} {P : Nat → Prop} {md : Nat → Int} {w : WyS} {q b : Nat} {c : Int} {u : PS} (h : AMO U P md w q c b u) (hb : P b) (e : (cHt P b : Int) = c) (r : (md b = 1 ∧ RWX (w.1 b) (w.2 b) b u ∧ iC u 203 b = uM U q b) ∨ (md b ≠ 1 ∧ RWX ((uW U).1 b) ((uW U).2 b) b u ∧ iC u 203 b = 0)) : AMQ U P md w q (c + 1) u := by
  have hp : PcH P (c + 1) b := ⟨hb, by omega⟩
  refine ⟨fun x hx => ?_, fun x hx => ?_⟩
  · by_cases z : x = b
    · subst z
      rcases r with ⟨m, r1, _⟩ | ⟨m, r1, _⟩
      · rw [(wyc_y ⟨hp, m⟩).1, (wyc_y ⟨hp, m⟩).2]; exact r1
      · have n : ¬ (PcH P (c + 1) x ∧ md x = 1) := fun y => m y.2
        rw [(wyc_n n).1, (wyc_n n).2]; exact r1
    · have y := wyc_e (U := U) (md := md) (w := w) (pch_o hb e z)
      rw [← y.1, ← y.2]; exact h.1 x hx z
  · by_cases z : x = b
    · subst z
      rcases r with ⟨m, _, r1⟩ | ⟨m, _, r1⟩
      · rw [show moC U (PcH P (c + 1)) md q x = uM U q x from piq_n (fun y => y.2 m)]; exact r1
      · rw [show moC U (PcH P (c + 1)) md q x = 0 from piq_y ⟨hp, m⟩]; exact r1
    · rw [← moc_e (pch_o hb e z)]; exact h.2 x hx z
/-- the row of one that goes round, under way -/
def RLQ (f : Nat → Int) (z c : Int) (b : Nat) (t : PS) : Prop := iC t 202 b = z ∧ (∀ k : Nat, (k : Int) < c → iC t (204 + b) k = f k) ∧ ∀ d : Nat, d < 128 → (iC t (216 + b) d = -1 ∧ ∀ k : Nat, (k : Int) < c → f k ≠ (d : Int)) ∨ ∃ k : Nat, (k : Int) < c ∧ f k = (d : Int) ∧ iC t (216 + b) d = (k : Int)
theorem rlq_0 {f : Nat → Int} {z : Int} {b : Nat} {t : PS} (h1 : iC t 202 b = z) (h2 : ∀ d : Nat, d < 128 → iC t (216 + b) d = -1) : RLQ f z 0 b t := ⟨h1, fun k hk => absurd hk (by omega), fun d hd => Or.inl ⟨h2 d hd, fun k hk => absurd hk (by omega)⟩⟩
theorem rlq_up {f : Nat → Int} {z c : Int} {b : Nat} {t u r : PS} (h : RLQ f z c b t) (c0 : 0 ≤ c ∧ c < 24) (hb : b < 12) (f0 : 0 ≤ f c.toNat ∧ f c.toNat ≤ 127) (e1 : u = uC t (204 + b) c.toNat (Int32.ofInt (f c.toNat))) (e2 : r = uC u (216 + b) (f c.toNat).toNat (Int32.ofInt c)) : RLQ f z (c + 1) b r := by
  obtain ⟨h1, h2, h3⟩ := h
  refine ⟨by rw [e2, iC_a (by omega), e1, iC_a (by omega)]; exact h1, fun k hk => ?_, fun d hd => ?_⟩
  · rw [e2, iC_a (by omega), e1]
    by_cases y : k = c.toNat
    · rw [y]; exact iC_u ⟨by omega, by omega⟩
    · rw [iC_n y]; exact h2 k (by omega)
  · by_cases y : d = (f c.toNat).toNat
    · refine Or.inr ⟨c.toNat, by omega, by omega, ?_⟩
      rw [e2, y, iC_u ⟨by omega, by omega⟩]; omega
    · have e : iC r (216 + b) d = iC t (216 + b) d := by rw [e2, iC_n y, e1]; exact iC_a (by omega)
      rw [e]
      rcases h3 d hd with ⟨a1, a2⟩ | ⟨k, k1, k2, k3⟩
      · refine Or.inl ⟨a1, fun k hk => ?_⟩
        by_cases w : k = c.toNat
        · rw [w]; omega
        · exact a2 k (by omega)
      · exact Or.inr ⟨k, by omega, k2, k3⟩
theorem rlq_e {f : Nat → Int} {z c : Int} {b : Nat} {t : PS} (h : RLQ f z c b t) (hc : c = z) : RWX f z b t := by rw [hc] at h; exact h
/-- the end: what the model hears is the mended air -/
noncomputable def uC9 (U : AirD) (w : WyS) : AirD := (U.1, w, U.2.2)
theorem am_e {U : AirD} {P : Nat → Prop} {md : Nat → Int} {w : WyS} {q : Nat} {c : Int} {t : PS} (h : AMQ U P md w q c t) (hn : iI t 90 = (uN U : Int) ∧ uN U ≤ 12) (hk : ∀ x, x < uN U → WOK ((wyC U (PcH P c) md w).1 x) ((wyC U (PcH P c) md w).2 x)) : NW t ∧ NWL t ∧ NWE (uC9 U (wyC U (PcH P c) md w)) t ∧ NMQ (moC U (PcH P c) md q) (uN U : Int) t := by
  refine ⟨fun x hx hs => ?_, fun x hx hs => ?_, ⟨hn.2, fun x hx => ?_⟩, fun x hx => h.2 x (by omega)⟩
  · obtain ⟨r1, r2, r3⟩ := h.1 x (by omega)
    have k := hk x (by omega)
    refine ⟨by rw [r1]; exact k.1.1, fun c hc => ?_⟩
    rw [r1]
    have k1 := k.1.1
    rcases r3 c hc with a | ⟨j, j1, j2, j3⟩
    · rw [a.1]; omega
    · rw [j3]; exact j1
  · obtain ⟨r1, r2, r3⟩ := h.1 x (by omega)
    have k := hk x (by omega)
    unfold fwM
    rw [r1]
    refine ⟨k.1, fun j hj => by rw [r2 j hj]; exact k.2.1 j hj, fun j l hj hl e => k.2.2.2 j l hj hl (by rw [← r2 j hj, ← r2 l hl]; exact e), fun c hc => ?_⟩
    rcases r3 c hc with a | ⟨j, j1, j2, j3⟩
    · exact Or.inl ⟨a.1, fun j hj => by rw [r2 j hj]; exact a.2 j hj⟩
    · exact Or.inr ⟨j, j1, by rw [r2 j j1]; exact j2, j3⟩
  · obtain ⟨r1, r2, r3⟩ := h.1 x hx
    exact ⟨r1, fun j hj => r2 j (by replace hj : (j : Int) < iC t 202 x := hj; rw [r1] at hj; exact hj)⟩
theorem rwx_m {f : Nat → Int} {z : Int} {x i : Nat} {v : Int32} {t u : PS} (hx : x < 12) (h : RWX f z x t) (e : u = uC t 203 i v) : RWX f z x u := ⟨by rw [e, iC_a (by omega)]; exact h.1, fun k hk => by rw [e, iC_a (by omega)]; exact h.2.1 k hk, fun c hc => by rw [e, iC_a (by omega)]; exact h.2.2 c hc⟩
abbrev MD9 (s : PS) : Nat → Int := fun x => iC s 401 x
abbrev RW9 (s : PS) : WyS := (fun x k => iC s (405 + x) k, fun x => iC s 403 x)
/-- who is hit, what is chosen for them -/
def HMQ (U : AirD) (P : Nat → Prop) (s : PS) : Prop := (iI s 105 = (cHt P (uN U) : Int) ∧ iI s 105 ≤ 8) ∧ HTQ P (uN U) (fun j => iC s 400 j) ∧ ∀ x, x < uN U → P x → (1 ≤ iC s 401 x ∧ iC s 401 x ≤ 3) ∧ (iC s 401 x = 1 → WOK (fun k => iC s (405 + x) k) (iC s 403 x))
def AMB (U : AirD) (P : Nat → Prop) (md : Nat → Int) (w : WyS) (q : Nat) (c : Int) (b : Nat) (z : Int) (t : PS) : Prop := AMO U P md w q c b t ∧ iC t 202 b = z ∧ iC t 203 b = uM U q b
theorem amq_b {U : AirD} {P : Nat → Prop} {md : Nat → Int} {w : WyS} {q b : Nat} {c : Int} {t : PS} (h : AMQ U P md w q c t) (hb : b < uN U) (e : (cHt P b : Int) = c) : RWX ((uW U).1 b) ((uW U).2 b) b t ∧ iC t 203 b = uM U q b := by
  have n : ¬ PcH P c b := fun y => by have := y.2; omega
  have r := h.1 b hb
  have m := h.2 b hb
  rw [(wyc_n (fun y => n y.1)).1, (wyc_n (fun y => n y.1)).2] at r
  rw [show moC U (PcH P c) md q b = uM U q b from piq_n (fun y => n y.1)] at m
  exact ⟨r, m⟩
theorem amb_0 {U : AirD} {P : Nat → Prop} {md : Nat → Int} {w : WyS} {q b : Nat} {c z : Int} {t u : PS} (h : AMQ U P md w q c t) (hn : uN U ≤ 12) (hb : b < uN U) (e : (cHt P b : Int) = c) (z0 : 0 ≤ z ∧ z ≤ 24) (hu : u = uC t 202 b (Int32.ofInt z)) : AMB U P md w q c b z u := ⟨amo_w (amo_of h) hn (by omega) (Or.inl ⟨rfl, rfl⟩) hu, by rw [hu]; exact iC_u ⟨by omega, by omega⟩, by rw [hu, iC_a (by decide)]; exact (amq_b h hb e).2⟩
theorem amb_w {U : AirD} {P : Nat → Prop} {md : Nat → Int} {w : WyS} {q b a i : Nat} {c z : Int} {v : Int32} {t u : PS} (h : AMB U P md w q c b z t) (hn : uN U ≤ 12) (hb : b < 12) (ha : a = 216 + b ∨ a = 204 + b) (hu : u = uC t a i v) : AMB U P md w q c b z u := ⟨amo_w h.1 hn hb (ha.elim (fun y => Or.inr (Or.inl y)) (fun y => Or.inr (Or.inr (Or.inl y)))) hu, by rw [hu, iC_a (by omega)]; exact h.2.1, by rw [hu, iC_a (by omega)]; exact h.2.2⟩
section M87lb
variable {l : Launch} {s0 : State} {D : va_G} {tys : List (ClassId × FieldType)} {a0 : Array Value} {A : Nat → Nat} {dT : Nat → ClassId} {s : PS}
set_option maxRecDepth 4000 in
theorem k_asMended9 (G : GX l s0 D tys a0 dT) {U : AirD} {P : Nat → Prop} (I : Bd s) (jRLx : RLx s) (jMDJ : MDJ U s) {x : Int} (p0 : 0 ≤ x ∧ x ≤ 23) (p1 : HMQ U P s) : CT l s0 D A dT 284 (rmN 284) [.ref (A 179), .int (Int32.ofInt x)] s (fun o t => Bd t ∧ Fm [] [202, 204, 205, 206, 207, 208, 209, 210, 211, 212, 213, 214, 215, 216, 217, 218, 219, 220, 221, 222, 223, 224, 225, 226, 227, 203] s t ∧ RLx t ∧ o = .inl none ∧ (AMQ U P (MD9 s) (RW9 s) (x : Int).toNat (iI s 105) t)) := by
  refine ct_of G (by decide) (Nat.le_of_ble_eq_true rfl) (fun k X E hRt hXt q => ?_)
  show WS k 0 [(0, .ref (A 179)), (1, .int (Int32.ofInt x))] [] _ 0 0
  have F : Fm [] [202, 204, 205, 206, 207, 208, 209, 210, 211, 212, 213, 214, 215, 216, 217, 218, 219, 220, 221, 222, 223, 224, 225, 226, 227, 203] s s := fm_rf _ _ s
  have hst9 := jMDJ.1
  have hp9 := p1.1
  have hRD : ∀ i, i < 12 → 405 + i ∉ [202, 204, 205, 206, 207, 208, 209, 210, 211, 212, 213, 214, 215, 216, 217, 218, 219, 220, 221, 222, 223, 224, 225, 226, 227, 203] := by decide
  have b1 : (0 : Int) ≤ iI s 105 ∧ iI s 105 ≤ 12 := I.1 105
  have b2 : (0 : Int) ≤ iI s 90 ∧ iI s 90 ≤ 12 := I.1 90
  have L57 : ∀ (n : Nat) (t : PS) (xv iv bv c : Int), Bd t → Fm [] [202, 204, 205, 206, 207, 208, 209, 210, 211, 212, 213, 214, 215, 216, 217, 218, 219, 220, 221, 222, 223, 224, 225, 226, 227, 203] s t → RLx t → MDJ U t → (AMB U P (MD9 s) (RW9 s) (x : Int).toNat iv (bv : Int).toNat (iC s 403 (bv : Int).toNat) t ∧ ∀ i : Nat, i < 128 → (i : Int) < c → iC t (216 + (bv : Int).toNat) i = -1) → ((xv = x ∧ bv = iC s 400 (iv : Int).toNat) ∧ (0 ≤ bv ∧ bv ≤ 11) ∧ uN U ≤ 12 ∧ (1 ≤ iC s 403 (bv : Int).toNat ∧ iC s 403 (bv : Int).toNat ≤ 24) ∧ iC t 403 (bv : Int).toNat = iC s 403 (bv : Int).toNat ∧ iI t 105 = iI s 105 ∧ iI t 90 = iI s 90 ∧ 0 ≤ c ∧ c ≤ 128) → (128 - c : Int).toNat < n → (∀ (t' : PS) (c' : Int), Bd t' → Fm [] [202, 204, 205, 206, 207, 208, 209, 210, 211, 212, 213, 214, 215, 216, 217, 218, 219, 220, 221, 222, 223, 224, 225, 226, 227, 203] s t' → RLx t' → MDJ U t' → (AMB U P (MD9 s) (RW9 s) (x : Int).toNat iv (bv : Int).toNat (iC s 403 (bv : Int).toNat) t' ∧ ∀ i : Nat, i < 128 → (i : Int) < c' → iC t' (216 + (bv : Int).toNat) i = -1) → ((xv = x ∧ bv = iC s 400 (iv : Int).toNat) ∧ (0 ≤ bv ∧ bv ≤ 11) ∧ uN U ≤ 12 ∧ (1 ≤ iC s 403 (bv : Int).toNat ∧ iC s 403 (bv : Int).toNat ≤ 24) ∧ iC t' 403 (bv : Int).toNat = iC s 403 (bv : Int).toNat ∧ iI t' 105 = iI s 105 ∧ iI t' 90 = iI s 90 ∧ 128 ≤ c') → WS k 81 [(0, .ref (A 179)), (1, .int (Int32.ofInt xv)), (2, .int (Int32.ofInt iv)), (3, .int (Int32.ofInt bv)), (4, .int (Int32.ofInt c'))] [] (Wd A dT t') 0 0) → WS k 57 [(0, .ref (A 179)), (1, .int (Int32.ofInt xv)), (2, .int (Int32.ofInt iv)), (3, .int (Int32.ofInt bv)), (4, .int (Int32.ofInt c))] [] (Wd A dT t) 0 0 := by
    intro n
    induction n with
    | zero =>
      intro t xv iv bv c I F jjRLx jjMDJ hq hi hm kx
      exact absurd hm (Nat.not_lt_zero _)
    | succ n ih =>
      intro t xv iv bv c I F jjRLx jjMDJ hq hi hm kx
      have b1001 : (0 : Int) ≤ iI t 105 ∧ iI t 105 ≤ 12 := I.1 105
      have b1002 : (0 : Int) ≤ iI t 90 ∧ iI t 90 ≤ 12 := I.1 90
      refine z_load X (x := c) (show cdA 284 57 = some (.iload 4, 2, 0, 0, 0) from rfl) (List.Mem.tail _ (List.Mem.tail _ (List.Mem.tail _ (List.Mem.tail _ (List.Mem.head _))))) ?_
      refine z_sipush X (show cdA 284 59 = some (.sipush 128, 3, 0, 0, 128) from rfl) ?_
      refine z_icmp_ge X (t := 81) (show cdA 284 62 = some (.if_icmp .ge 19, 3, 3, 0, 0) from rfl) (by decide) ⟨by first | exact oq_fa4e5087 hi.2.2.2.2.2.2.2.1 | omega, by first | exact oq_4ee82282 hi.2.2.2.2.2.2.2.2 | omega⟩ (by decide) (fun g1003 => ?_) (fun g1003 => ?_)
      ·
        refine WS_lv (lv := [(0, .ref (A 179)), (1, .int (Int32.ofInt xv)), (2, .int (Int32.ofInt iv)), (3, .int (Int32.ofInt bv)), (4, .int (Int32.ofInt c))]) (List.forall_mem_cons.mpr ⟨(List.Mem.head _), (List.forall_mem_cons.mpr ⟨(List.Mem.tail _ (List.Mem.head _)), (List.forall_mem_cons.mpr ⟨(List.Mem.tail _ (List.Mem.tail _ (List.Mem.head _))), (List.forall_mem_cons.mpr ⟨(List.Mem.tail _ (List.Mem.tail _ (List.Mem.tail _ (List.Mem.head _)))), (List.forall_mem_cons.mpr ⟨(List.Mem.tail _ (List.Mem.tail _ (List.Mem.tail _ (List.Mem.tail _ (List.Mem.head _))))), (fun q h => absurd h List.not_mem_nil)⟩)⟩)⟩)⟩)⟩) ?_
        exact kx _ c I F jjRLx jjMDJ hq (by first | exact ⟨And.intro (hi.1.1) (hi.1.2), And.intro (hi.2.1.1) (hi.2.1.2), hi.2.2.1, And.intro (hi.2.2.2.1.1) (hi.2.2.2.1.2), hi.2.2.2.2.1, hi.2.2.2.2.2.1, hi.2.2.2.2.2.2.1, g1003⟩ | omega)
      ·
        refine z_aload_n X (x := A 179) (show cdA 284 65 = some (.aload_n 0, 1, 0, 0, 0) from rfl) (List.Mem.head _) ?_
        refine s_getR X 179 (show cdA 284 66 = some (.getfield 67, 3, 12, 34, 0) from rfl) (by decide) rfl rfl ?_
        refine z_load_n X (x := bv) (show cdA 284 69 = some (.iload_n 3, 1, 0, 0, 0) from rfl) (List.Mem.tail _ (List.Mem.tail _ (List.Mem.tail _ (List.Mem.head _)))) ?_
        refine z_aald X rw_243 (show cdA 284 70 = some (.aaload, 1, 0, 0, 0) from rfl) (by first | exact hi.2.1.1 | omega) (show bv < 12 by first | exact oq_0ddfcfee hi.2.1.2 | omega) (by decide) ?_
        refine z_load X (x := c) (show cdA 284 71 = some (.iload 4, 2, 0, 0, 0) from rfl) (List.Mem.tail _ (List.Mem.tail _ (List.Mem.tail _ (List.Mem.tail _ (List.Mem.head _))))) ?_
        refine z_const X (show cdA 284 73 = some (.iconst (-1), 1, 0, 0, 0) from rfl) ?_
        refine z_ast2 X rw_243 (show cdA 284 74 = some (.iastore, 1, 0, 0, 0) from rfl) (show (bv : Int).toNat < 12 by first | exact oq_9c5fa447 hi.2.1.2 | omega) (by first | exact hi.2.2.2.2.2.2.2.1 | omega) (show c < 128 by first | exact g1003 | omega) (by decide) ?_
        obtain ⟨s1004, hs1004⟩ : ∃ x0, x0 = uC t (216 + (bv : Int).toNat) (c : Int).toNat (Int32.ofInt (-1)) := ⟨_, rfl⟩
        rw [← hs1004]
        have Is1004 : Bd s1004 := by rw [hs1004]; exact rw_st rw_243 I (show (bv : Int).toNat < 12 by first | exact oq_9c5fa447 hi.2.1.2 | omega) (show ((-1) : Int) ≤ (-1) ∧ (-1) ≤ 23 by first | exact ⟨by decide, by decide⟩ | omega) (by decide)
        have Fs1004 := fm_C (i := (c : Int).toNat) (x := Int32.ofInt (-1)) F ((show ∀ j, j < 12 → 216 + j ∈ _ by decide) (bv : Int).toNat (by first | exact oq_9c5fa447 hi.2.1.2 | omega))
        rw [← hs1004] at Fs1004
        have ws1004_105 : iI s1004 105 = iI t 105 := by rw [hs1004]; rfl
        have ws1004_90 : iI s1004 90 = iI t 90 := by rw [hs1004]; rfl
        have cw1005 : iC s1004 403 (bv).toNat = iC t 403 (bv).toNat := by rw [hs1004]; exact iC_a (by omega)
        have fs1004 : Fm [] [216, 217, 218, 219, 220, 221, 222, 223, 224, 225, 226, 227] t s1004 := by rw [hs1004]; exact fm_C (fm_rf _ _ _) ((show ∀ j, j < 12 → 216 + j ∈ _ by decide) (bv : Int).toNat (by first | exact oq_9c5fa447 hi.2.1.2 | omega))
        have JRLx_s1004 : RLx s1004 := RLx_fm fs1004 (by decide) jjRLx
        have JMDJ_s1004 : MDJ U s1004 := MDJ_fm fs1004 (by decide) jjMDJ
        refine z_inc X (x := c) (lv' := [(4, .int (Int32.ofInt (c + 1))), (0, .ref (A 179)), (1, .int (Int32.ofInt xv)), (2, .int (Int32.ofInt iv)), (3, .int (Int32.ofInt bv))]) (show cdA 284 75 = some (.iinc 4 1, 3, 0, 0, 0) from rfl) (by decide) (List.Mem.tail _ (List.Mem.tail _ (List.Mem.tail _ (List.Mem.tail _ (List.Mem.head _))))) (fun _ h => h) ?_
        refine z_goto X (t := 57) (show cdA 284 78 = some (.goto (-21), 3, 0, 0, 0) from rfl) (by decide) ?_
        refine WS_lv (lv := [(0, .ref (A 179)), (1, .int (Int32.ofInt xv)), (2, .int (Int32.ofInt iv)), (3, .int (Int32.ofInt bv)), (4, .int (Int32.ofInt (c + 1)))]) (List.forall_mem_cons.mpr ⟨(List.Mem.tail _ (List.Mem.head _)), (List.forall_mem_cons.mpr ⟨(List.Mem.tail _ (List.Mem.tail _ (List.Mem.head _))), (List.forall_mem_cons.mpr ⟨(List.Mem.tail _ (List.Mem.tail _ (List.Mem.tail _ (List.Mem.head _)))), (List.forall_mem_cons.mpr ⟨(List.Mem.tail _ (List.Mem.tail _ (List.Mem.tail _ (List.Mem.tail _ (List.Mem.head _))))), (List.forall_mem_cons.mpr ⟨(List.Mem.head _), (fun q h => absurd h List.not_mem_nil)⟩)⟩)⟩)⟩)⟩) ?_
        exact ih _ xv iv bv (c + 1) Is1004 Fs1004 JRLx_s1004 JMDJ_s1004 ⟨amb_w hq.1 (by omega) (by omega) (Or.inl rfl) hs1004, fun i hi h => by by_cases e : i = (c : Int).toNat; (· rw [e, hs1004, iC_u ⟨by omega, by omega⟩]); (· rw [hs1004, iC_n e]; exact hq.2 i hi (by omega))⟩ (by first | exact ⟨And.intro (hi.1.1) (hi.1.2), And.intro (hi.2.1.1) (hi.2.1.2), hi.2.2.1, And.intro (hi.2.2.2.1.1) (hi.2.2.2.1.2), oq_1aa5be9e cw1005 hi.2.2.2.2.1, oq_1aa5be9e ws1004_105 hi.2.2.2.2.2.1, oq_1aa5be9e ws1004_90 hi.2.2.2.2.2.2.1, oq_54f49eb5 hi.2.2.2.2.2.2.2.1, oq_d2afb425 g1003⟩ | omega) (by first | exact qk_me hm (by decide) (oq_c268b7bd g1003) | omega) kx
  have L84 : ∀ (n : Nat) (t : PS) (xv iv bv c : Int), Bd t → Fm [] [202, 204, 205, 206, 207, 208, 209, 210, 211, 212, 213, 214, 215, 216, 217, 218, 219, 220, 221, 222, 223, 224, 225, 226, 227, 203] s t → RLx t → MDJ U t → ((AMB U P (MD9 s) (RW9 s) (x : Int).toNat iv (bv : Int).toNat (iC s 403 (bv : Int).toNat) t ∧ RLQ (fun k => iC s (405 + (bv : Int).toNat) k) (iC s 403 (bv : Int).toNat) c (bv : Int).toNat t) ∧ (∀ k : Nat, (k : Int) < iC s 403 (bv : Int).toNat → 0 ≤ iC s (405 + (bv : Int).toNat) k ∧ iC s (405 + (bv : Int).toNat) k ≤ 127)) → ((xv = x ∧ bv = iC s 400 (iv : Int).toNat) ∧ (0 ≤ bv ∧ bv ≤ 11) ∧ uN U ≤ 12 ∧ (1 ≤ iC s 403 (bv : Int).toNat ∧ iC s 403 (bv : Int).toNat ≤ 24) ∧ iC t 403 (bv : Int).toNat = iC s 403 (bv : Int).toNat ∧ iI t 105 = iI s 105 ∧ iI t 90 = iI s 90 ∧ 0 ≤ c ∧ c ≤ iC s 403 (bv : Int).toNat) → (24 - c : Int).toNat < n → (∀ (t' : PS) (c' : Int), Bd t' → Fm [] [202, 204, 205, 206, 207, 208, 209, 210, 211, 212, 213, 214, 215, 216, 217, 218, 219, 220, 221, 222, 223, 224, 225, 226, 227, 203] s t' → RLx t' → MDJ U t' → ((AMB U P (MD9 s) (RW9 s) (x : Int).toNat iv (bv : Int).toNat (iC s 403 (bv : Int).toNat) t' ∧ RLQ (fun k => iC s (405 + (bv : Int).toNat) k) (iC s 403 (bv : Int).toNat) c' (bv : Int).toNat t') ∧ (∀ k : Nat, (k : Int) < iC s 403 (bv : Int).toNat → 0 ≤ iC s (405 + (bv : Int).toNat) k ∧ iC s (405 + (bv : Int).toNat) k ≤ 127)) → ((xv = x ∧ bv = iC s 400 (iv : Int).toNat) ∧ (0 ≤ bv ∧ bv ≤ 11) ∧ uN U ≤ 12 ∧ (1 ≤ iC s 403 (bv : Int).toNat ∧ iC s 403 (bv : Int).toNat ≤ 24) ∧ iC t' 403 (bv : Int).toNat = iC s 403 (bv : Int).toNat ∧ iI t' 105 = iI s 105 ∧ iI t' 90 = iI s 90 ∧ c' = iC s 403 (bv : Int).toNat) → WS k 137 [(0, .ref (A 179)), (1, .int (Int32.ofInt xv)), (2, .int (Int32.ofInt iv)), (3, .int (Int32.ofInt bv)), (4, .int (Int32.ofInt c'))] [] (Wd A dT t') 0 0) → WS k 84 [(0, .ref (A 179)), (1, .int (Int32.ofInt xv)), (2, .int (Int32.ofInt iv)), (3, .int (Int32.ofInt bv)), (4, .int (Int32.ofInt c))] [] (Wd A dT t) 0 0 := by
    intro n
    induction n with
    | zero =>
      intro t xv iv bv c I F jjRLx jjMDJ hq hi hm kx
      exact absurd hm (Nat.not_lt_zero _)
    | succ n ih =>
      intro t xv iv bv c I F jjRLx jjMDJ hq hi hm kx
      have b2001 : (0 : Int) ≤ iI t 105 ∧ iI t 105 ≤ 12 := I.1 105
      have b2002 : (0 : Int) ≤ iI t 90 ∧ iI t 90 ≤ 12 := I.1 90
      refine z_load X (x := c) (show cdA 284 84 = some (.iload 4, 2, 0, 0, 0) from rfl) (List.Mem.tail _ (List.Mem.tail _ (List.Mem.tail _ (List.Mem.tail _ (List.Mem.head _))))) ?_
      refine z_aload_n X (x := A 179) (show cdA 284 86 = some (.aload_n 0, 1, 0, 0, 0) from rfl) (List.Mem.head _) ?_
      refine s_getR X 179 (show cdA 284 87 = some (.getfield 151, 3, 12, 71, 0) from rfl) (by decide) rfl rfl ?_
      refine z_load_n X (x := bv) (show cdA 284 90 = some (.iload_n 3, 1, 0, 0, 0) from rfl) (List.Mem.tail _ (List.Mem.tail _ (List.Mem.tail _ (List.Mem.head _)))) ?_
      refine z_ald X 458 (show cdA 284 91 = some (.iaload, 1, 0, 0, 0) from rfl) (by decide) rfl (by first | exact hi.2.1.1 | omega) (show bv < 12 by first | exact oq_0ddfcfee hi.2.1.2 | omega) (by decide) ?_
      have b2003 : (0 : Int) ≤ iC t 403 (bv).toNat ∧ iC t 403 (bv).toNat ≤ 24 := I.2 403 _ (show (bv).toNat < 12 by first | exact oq_9c5fa447 hi.2.1.2 | omega)
      refine z_icmp_ge X (t := 137) (show cdA 284 92 = some (.if_icmp .ge 45, 3, 3, 0, 0) from rfl) (by decide) ⟨by first | exact oq_fa4e5087 hi.2.2.2.2.2.2.2.1 | omega, by first | exact oq_403249cf hi.2.2.2.2.2.2.2.2 hi.2.2.2.1.2 | omega⟩ (rng_to _) (fun g2004 => ?_) (fun g2004 => ?_)
      ·
        refine WS_lv (lv := [(0, .ref (A 179)), (1, .int (Int32.ofInt xv)), (2, .int (Int32.ofInt iv)), (3, .int (Int32.ofInt bv)), (4, .int (Int32.ofInt c))]) (List.forall_mem_cons.mpr ⟨(List.Mem.head _), (List.forall_mem_cons.mpr ⟨(List.Mem.tail _ (List.Mem.head _)), (List.forall_mem_cons.mpr ⟨(List.Mem.tail _ (List.Mem.tail _ (List.Mem.head _))), (List.forall_mem_cons.mpr ⟨(List.Mem.tail _ (List.Mem.tail _ (List.Mem.tail _ (List.Mem.head _)))), (List.forall_mem_cons.mpr ⟨(List.Mem.tail _ (List.Mem.tail _ (List.Mem.tail _ (List.Mem.tail _ (List.Mem.head _))))), (fun q h => absurd h List.not_mem_nil)⟩)⟩)⟩)⟩)⟩) ?_
        exact kx _ c I F jjRLx jjMDJ hq (by first | exact ⟨And.intro (hi.1.1) (hi.1.2), And.intro (hi.2.1.1) (hi.2.1.2), hi.2.2.1, And.intro (hi.2.2.2.1.1) (hi.2.2.2.1.2), hi.2.2.2.2.1, hi.2.2.2.2.2.1, hi.2.2.2.2.2.2.1, oq_537ca82a hi.2.2.2.2.2.2.2.2 g2004 hi.2.2.2.2.1⟩ | omega)
      ·
        refine z_aload_n X (x := A 179) (show cdA 284 95 = some (.aload_n 0, 1, 0, 0, 0) from rfl) (List.Mem.head _) ?_
        refine s_getR X 179 (show cdA 284 96 = some (.getfield 64, 3, 12, 33, 0) from rfl) (by decide) rfl rfl ?_
        refine z_load_n X (x := bv) (show cdA 284 99 = some (.iload_n 3, 1, 0, 0, 0) from rfl) (List.Mem.tail _ (List.Mem.tail _ (List.Mem.tail _ (List.Mem.head _)))) ?_
        refine z_aald X rw_230 (show cdA 284 100 = some (.aaload, 1, 0, 0, 0) from rfl) (by first | exact hi.2.1.1 | omega) (show bv < 12 by first | exact oq_0ddfcfee hi.2.1.2 | omega) (by decide) ?_
        have hrd : iC t (405 + (bv : Int).toNat) (c : Int).toNat = iC s (405 + (bv : Int).toNat) (c : Int).toNat := fm_c F (hRD _ (by omega))
        have hcr := hi
        refine z_load X (x := c) (show cdA 284 101 = some (.iload 4, 2, 0, 0, 0) from rfl) (List.Mem.tail _ (List.Mem.tail _ (List.Mem.tail _ (List.Mem.tail _ (List.Mem.head _))))) ?_
        refine z_aload_n X (x := A 179) (show cdA 284 103 = some (.aload_n 0, 1, 0, 0, 0) from rfl) (List.Mem.head _) ?_
        refine s_getR X 179 (show cdA 284 104 = some (.getfield 157, 3, 12, 73, 0) from rfl) (by decide) rfl rfl ?_
        refine z_load_n X (x := bv) (show cdA 284 107 = some (.iload_n 3, 1, 0, 0, 0) from rfl) (List.Mem.tail _ (List.Mem.tail _ (List.Mem.tail _ (List.Mem.head _)))) ?_
        refine z_aald X rw_460 (show cdA 284 108 = some (.aaload, 1, 0, 0, 0) from rfl) (by first | exact hi.2.1.1 | omega) (show bv < 12 by first | exact oq_0ddfcfee hi.2.1.2 | omega) (by decide) ?_
        refine z_load X (x := c) (show cdA 284 109 = some (.iload 4, 2, 0, 0, 0) from rfl) (List.Mem.tail _ (List.Mem.tail _ (List.Mem.tail _ (List.Mem.tail _ (List.Mem.head _))))) ?_
        refine z_ald2 X rw_460 (show cdA 284 111 = some (.iaload, 1, 0, 0, 0) from rfl) (show (bv : Int).toNat < 12 by first | exact oq_9c5fa447 hi.2.1.2 | omega) (by first | exact hi.2.2.2.2.2.2.2.1 | omega) (show c < 24 by first | exact oq_8ff7beb9 g2004 b2003.2 | omega) (by decide) ?_
        have b2005 : (0 : Int) ≤ (iC t (405 + (bv : Int).toNat) (c : Int).toNat) ∧ (iC t (405 + (bv : Int).toNat) (c : Int).toNat) ≤ 127 := rw_bd rw_460 I (show (bv : Int).toNat < 12 by first | exact oq_9c5fa447 hi.2.1.2 | omega) (show (c : Int).toNat < 24 by first | exact oq_9e668fc9 g2004 b2003.2 | omega)
        refine z_ast2 X rw_230 (show cdA 284 112 = some (.iastore, 1, 0, 0, 0) from rfl) (show (bv : Int).toNat < 12 by first | exact oq_9c5fa447 hi.2.1.2 | omega) (by first | exact hi.2.2.2.2.2.2.2.1 | omega) (show c < 24 by first | exact oq_8ff7beb9 g2004 b2003.2 | omega) (by decide) ?_
        obtain ⟨s2006, hs2006⟩ : ∃ x0, x0 = uC t (204 + (bv : Int).toNat) (c : Int).toNat (Int32.ofInt (iC t (405 + (bv : Int).toNat) (c : Int).toNat)) := ⟨_, rfl⟩
        rw [← hs2006]
        have Is2006 : Bd s2006 := by rw [hs2006]; exact rw_st rw_230 I (show (bv : Int).toNat < 12 by first | exact oq_9c5fa447 hi.2.1.2 | omega) (show (0 : Int) ≤ (iC t (405 + (bv : Int).toNat) (c : Int).toNat) ∧ (iC t (405 + (bv : Int).toNat) (c : Int).toNat) ≤ 127 by first | exact ⟨b2005.1, b2005.2⟩ | omega) (rng_to _)
        have Fs2006 := fm_C (i := (c : Int).toNat) (x := Int32.ofInt (iC t (405 + (bv : Int).toNat) (c : Int).toNat)) F ((show ∀ j, j < 12 → 204 + j ∈ _ by decide) (bv : Int).toNat (by first | exact oq_9c5fa447 hi.2.1.2 | omega))
        rw [← hs2006] at Fs2006
        have ws2006_105 : iI s2006 105 = iI t 105 := by rw [hs2006]; rfl
        have ws2006_90 : iI s2006 90 = iI t 90 := by rw [hs2006]; rfl
        have cw2007 : iC s2006 403 (bv).toNat = iC t 403 (bv).toNat := by rw [hs2006]; exact iC_a (by omega)
        have fs2006 : Fm [] [204, 205, 206, 207, 208, 209, 210, 211, 212, 213, 214, 215] t s2006 := by rw [hs2006]; exact fm_C (fm_rf _ _ _) ((show ∀ j, j < 12 → 204 + j ∈ _ by decide) (bv : Int).toNat (by first | exact oq_9c5fa447 hi.2.1.2 | omega))
        have JRLx_s2006 : RLx s2006 := RLx_fm fs2006 (by decide) jjRLx
        have JMDJ_s2006 : MDJ U s2006 := MDJ_fm fs2006 (by decide) jjMDJ
        refine z_aload_n X (x := A 179) (show cdA 284 113 = some (.aload_n 0, 1, 0, 0, 0) from rfl) (List.Mem.head _) ?_
        refine s_getR X 179 (show cdA 284 114 = some (.getfield 67, 3, 12, 34, 0) from rfl) (by decide) rfl rfl ?_
        refine z_load_n X (x := bv) (show cdA 284 117 = some (.iload_n 3, 1, 0, 0, 0) from rfl) (List.Mem.tail _ (List.Mem.tail _ (List.Mem.tail _ (List.Mem.head _)))) ?_
        refine z_aald X rw_243 (show cdA 284 118 = some (.aaload, 1, 0, 0, 0) from rfl) (by first | exact hi.2.1.1 | omega) (show bv < 12 by first | exact oq_0ddfcfee hi.2.1.2 | omega) (by decide) ?_
        refine z_aload_n X (x := A 179) (show cdA 284 119 = some (.aload_n 0, 1, 0, 0, 0) from rfl) (List.Mem.head _) ?_
        refine s_getR X 179 (show cdA 284 120 = some (.getfield 157, 3, 12, 73, 0) from rfl) (by decide) rfl rfl ?_
        refine z_load_n X (x := bv) (show cdA 284 123 = some (.iload_n 3, 1, 0, 0, 0) from rfl) (List.Mem.tail _ (List.Mem.tail _ (List.Mem.tail _ (List.Mem.head _)))) ?_
        refine z_aald X rw_460 (show cdA 284 124 = some (.aaload, 1, 0, 0, 0) from rfl) (by first | exact hi.2.1.1 | omega) (show bv < 12 by first | exact oq_0ddfcfee hi.2.1.2 | omega) (by decide) ?_
        refine z_load X (x := c) (show cdA 284 125 = some (.iload 4, 2, 0, 0, 0) from rfl) (List.Mem.tail _ (List.Mem.tail _ (List.Mem.tail _ (List.Mem.tail _ (List.Mem.head _))))) ?_
        refine z_ald2 X rw_460 (show cdA 284 127 = some (.iaload, 1, 0, 0, 0) from rfl) (show (bv : Int).toNat < 12 by first | exact oq_9c5fa447 hi.2.1.2 | omega) (by first | exact hi.2.2.2.2.2.2.2.1 | omega) (show c < 24 by first | exact oq_8ff7beb9 g2004 b2003.2 | omega) (by decide) ?_
        have b2008 : (0 : Int) ≤ (iC s2006 (405 + (bv : Int).toNat) (c : Int).toNat) ∧ (iC s2006 (405 + (bv : Int).toNat) (c : Int).toNat) ≤ 127 := rw_bd rw_460 Is2006 (show (bv : Int).toNat < 12 by first | exact oq_9c5fa447 hi.2.1.2 | omega) (show (c : Int).toNat < 24 by first | exact oq_9e668fc9 g2004 b2003.2 | omega)
        refine z_load X (x := c) (show cdA 284 128 = some (.iload 4, 2, 0, 0, 0) from rfl) (List.Mem.tail _ (List.Mem.tail _ (List.Mem.tail _ (List.Mem.tail _ (List.Mem.head _))))) ?_
        refine z_ast2 X rw_243 (show cdA 284 130 = some (.iastore, 1, 0, 0, 0) from rfl) (show (bv : Int).toNat < 12 by first | exact oq_9c5fa447 hi.2.1.2 | omega) (by first | exact b2008.1 | omega) (show (iC s2006 (405 + (bv : Int).toNat) (c : Int).toNat) < 128 by first | exact oq_31b2bf10 b2008.2 | omega) (by decide) ?_
        obtain ⟨s2009, hs2009⟩ : ∃ x0, x0 = uC s2006 (216 + (bv : Int).toNat) ((iC s2006 (405 + (bv : Int).toNat) (c : Int).toNat) : Int).toNat (Int32.ofInt c) := ⟨_, rfl⟩
        rw [← hs2009]
        have Is2009 : Bd s2009 := by rw [hs2009]; exact rw_st rw_243 Is2006 (show (bv : Int).toNat < 12 by first | exact oq_9c5fa447 hi.2.1.2 | omega) (show ((-1) : Int) ≤ c ∧ c ≤ 23 by first | exact ⟨oq_ca54ea22 hi.2.2.2.2.2.2.2.1, oq_10212474 g2004 b2003.2⟩ | omega) ⟨by first | exact oq_fa4e5087 hi.2.2.2.2.2.2.2.1 | omega, by first | exact oq_cd47680f g2004 b2003.2 | omega⟩
        have Fs2009 := fm_C (i := ((iC s2006 (405 + (bv : Int).toNat) (c : Int).toNat) : Int).toNat) (x := Int32.ofInt c) Fs2006 ((show ∀ j, j < 12 → 216 + j ∈ _ by decide) (bv : Int).toNat (by first | exact oq_9c5fa447 hi.2.1.2 | omega))
        rw [← hs2009] at Fs2009
        have ws2009_105 : iI s2009 105 = iI s2006 105 := by rw [hs2009]; rfl
        have ws2009_90 : iI s2009 90 = iI s2006 90 := by rw [hs2009]; rfl
        have cw2010 : iC s2009 403 (bv).toNat = iC s2006 403 (bv).toNat := by rw [hs2009]; exact iC_a (by omega)
        have fs2009 : Fm [] [216, 217, 218, 219, 220, 221, 222, 223, 224, 225, 226, 227] s2006 s2009 := by rw [hs2009]; exact fm_C (fm_rf _ _ _) ((show ∀ j, j < 12 → 216 + j ∈ _ by decide) (bv : Int).toNat (by first | exact oq_9c5fa447 hi.2.1.2 | omega))
        have JRLx_s2009 : RLx s2009 := RLx_fm fs2009 (by decide) JRLx_s2006
        have JMDJ_s2009 : MDJ U s2009 := MDJ_fm fs2009 (by decide) JMDJ_s2006
        refine z_inc X (x := c) (lv' := [(4, .int (Int32.ofInt (c + 1))), (0, .ref (A 179)), (1, .int (Int32.ofInt xv)), (2, .int (Int32.ofInt iv)), (3, .int (Int32.ofInt bv))]) (show cdA 284 131 = some (.iinc 4 1, 3, 0, 0, 0) from rfl) (by decide) (List.Mem.tail _ (List.Mem.tail _ (List.Mem.tail _ (List.Mem.tail _ (List.Mem.head _))))) (fun _ h => h) ?_
        refine z_goto X (t := 84) (show cdA 284 134 = some (.goto (-50), 3, 0, 0, 0) from rfl) (by decide) ?_
        refine WS_lv (lv := [(0, .ref (A 179)), (1, .int (Int32.ofInt xv)), (2, .int (Int32.ofInt iv)), (3, .int (Int32.ofInt bv)), (4, .int (Int32.ofInt (c + 1)))]) (List.forall_mem_cons.mpr ⟨(List.Mem.tail _ (List.Mem.head _)), (List.forall_mem_cons.mpr ⟨(List.Mem.tail _ (List.Mem.tail _ (List.Mem.head _))), (List.forall_mem_cons.mpr ⟨(List.Mem.tail _ (List.Mem.tail _ (List.Mem.tail _ (List.Mem.head _)))), (List.forall_mem_cons.mpr ⟨(List.Mem.tail _ (List.Mem.tail _ (List.Mem.tail _ (List.Mem.tail _ (List.Mem.head _))))), (List.forall_mem_cons.mpr ⟨(List.Mem.head _), (fun q h => absurd h List.not_mem_nil)⟩)⟩)⟩)⟩)⟩) ?_
        have hrd2 : iC s2006 (405 + (bv : Int).toNat) (c : Int).toNat = iC t (405 + (bv : Int).toNat) (c : Int).toNat := by rw [hs2006]; exact iC_a (by omega)
        have hfc := hq.2 (c : Int).toNat (by omega)
        exact ih _ xv iv bv (c + 1) Is2009 Fs2009 JRLx_s2009 JMDJ_s2009 ⟨⟨amb_w (amb_w hq.1.1 (by omega) (by omega) (Or.inr rfl) hs2006) (by omega) (by omega) (Or.inl rfl) hs2009, rlq_up hq.1.2 (by omega) (by omega) hfc (by rw [hs2006, hrd]) (by rw [hs2009, hrd2, hrd])⟩, hq.2⟩ (by first | exact ⟨And.intro (hi.1.1) (hi.1.2), And.intro (hi.2.1.1) (hi.2.1.2), hi.2.2.1, And.intro (hi.2.2.2.1.1) (hi.2.2.2.1.2), oq_878618b1 cw2010 cw2007 hi.2.2.2.2.1, oq_d0d2714e ws2009_105 hi.2.2.2.2.2.1 ws2006_105, oq_d0d2714e ws2009_90 hi.2.2.2.2.2.2.1 ws2006_90, oq_54f49eb5 hi.2.2.2.2.2.2.2.1, oq_8a89b3ae g2004 hi.2.2.2.2.1⟩ | omega) (by first | exact qk_me hm (by decide) (oq_9dea93e6 g2004 b2003.2) | omega) kx
  have L7 : ∀ (n : Nat) (t : PS) (xv iv : Int), Bd t → Fm [] [202, 204, 205, 206, 207, 208, 209, 210, 211, 212, 213, 214, 215, 216, 217, 218, 219, 220, 221, 222, 223, 224, 225, 226, 227, 203] s t → RLx t → MDJ U t → (AMQ U P (MD9 s) (RW9 s) (x : Int).toNat iv t) → (xv = x ∧ (0 ≤ iv ∧ iv ≤ iI s 105) ∧ iI s 105 ≤ 8 ∧ iI t 105 = iI s 105 ∧ iI t 90 = iI s 90 ∧ uN U ≤ 12) → (8 - iv : Int).toNat < n → (∀ (t' : PS) (iv' : Int), Bd t' → Fm [] [202, 204, 205, 206, 207, 208, 209, 210, 211, 212, 213, 214, 215, 216, 217, 218, 219, 220, 221, 222, 223, 224, 225, 226, 227, 203] s t' → RLx t' → MDJ U t' → (AMQ U P (MD9 s) (RW9 s) (x : Int).toNat iv' t') → (iv' = iI s 105) → WS k 143 [(0, .ref (A 179)), (1, .int (Int32.ofInt xv)), (2, .int (Int32.ofInt iv'))] [] (Wd A dT t') 0 0) → WS k 7 [(0, .ref (A 179)), (1, .int (Int32.ofInt xv)), (2, .int (Int32.ofInt iv))] [] (Wd A dT t) 0 0 := by
    intro n
    induction n with
    | zero =>
      intro t xv iv I F jjRLx jjMDJ hq hi hm kx
      exact absurd hm (Nat.not_lt_zero _)
    | succ n ih =>
      intro t xv iv I F jjRLx jjMDJ hq hi hm kx
      have b3001 : (0 : Int) ≤ iI t 105 ∧ iI t 105 ≤ 12 := I.1 105
      have b3002 : (0 : Int) ≤ iI t 90 ∧ iI t 90 ≤ 12 := I.1 90
      refine z_load_n X (x := iv) (show cdA 284 7 = some (.iload_n 2, 1, 0, 0, 0) from rfl) (List.Mem.tail _ (List.Mem.tail _ (List.Mem.head _))) ?_
      refine z_aload_n X (x := A 179) (show cdA 284 8 = some (.aload_n 0, 1, 0, 0, 0) from rfl) (List.Mem.head _) ?_
      refine z_getI X 179 (show cdA 284 9 = some (.getfield 431, 3, 12, 74, 0) from rfl) (by decide) rfl rfl ?_
      have b3003 : (0 : Int) ≤ iI t 105 ∧ iI t 105 ≤ 12 := I.1 105
      refine z_icmp_ge X (t := 143) (show cdA 284 12 = some (.if_icmp .ge 131, 3, 3, 0, 0) from rfl) (by decide) ⟨by first | exact oq_fa4e5087 hi.2.1.1 | omega, by first | exact oq_b5dbaaed hi.2.1.2 hi.2.2.1 | omega⟩ (rng_to _) (fun g3004 => ?_) (fun g3004 => ?_)
      ·
        refine WS_lv (lv := [(0, .ref (A 179)), (1, .int (Int32.ofInt xv)), (2, .int (Int32.ofInt iv))]) (List.forall_mem_cons.mpr ⟨(List.Mem.head _), (List.forall_mem_cons.mpr ⟨(List.Mem.tail _ (List.Mem.head _)), (List.forall_mem_cons.mpr ⟨(List.Mem.tail _ (List.Mem.tail _ (List.Mem.head _))), (fun q h => absurd h List.not_mem_nil)⟩)⟩)⟩) ?_
        exact kx _ iv I F jjRLx jjMDJ hq (by first | exact oq_537ca82a hi.2.1.2 g3004 hi.2.2.2.1 | omega)
      ·
        refine z_aload_n X (x := A 179) (show cdA 284 15 = some (.aload_n 0, 1, 0, 0, 0) from rfl) (List.Mem.head _) ?_
        refine s_getR X 179 (show cdA 284 16 = some (.getfield 142, 3, 12, 68, 0) from rfl) (by decide) rfl rfl ?_
        refine z_load_n X (x := iv) (show cdA 284 19 = some (.iload_n 2, 1, 0, 0, 0) from rfl) (List.Mem.tail _ (List.Mem.tail _ (List.Mem.head _))) ?_
        refine z_ald X 455 (show cdA 284 20 = some (.iaload, 1, 0, 0, 0) from rfl) (by decide) rfl (by first | exact hi.2.1.1 | omega) (show iv < 8 by first | exact oq_940075ae g3004 hi.2.2.2.1 hi.2.2.1 | omega) (by decide) ?_
        have b3005 : (0 : Int) ≤ iC t 400 (iv).toNat ∧ iC t 400 (iv).toNat ≤ 11 := I.2 400 _ (show (iv).toNat < 8 by first | exact oq_5f8a5a7e g3004 hi.2.2.2.1 hi.2.2.1 | omega)
        refine z_store_n X (lv' := [(3, .int (Int32.ofInt (iC t 400 (iv).toNat))), (0, .ref (A 179)), (1, .int (Int32.ofInt xv)), (2, .int (Int32.ofInt iv))]) (show cdA 284 21 = some (.istore_n 3, 1, 0, 0, 0) from rfl) (by decide) (fun _ h => h) ?_
        have hb0 : iC t 400 (iv : Int).toNat = iC s 400 (iv : Int).toNat := fm_c F (by decide)
        obtain ⟨b1, hb2, hb3, hb4, hb5⟩ := htq_at p1.2.1 (j := (iv : Int).toNat) (by have := p1.1.1; omega)
        replace hb5 : iC s 400 (iv : Int).toNat = (b1 : Int) := hb5
        have hbn : ((iC t 400 (iv).toNat) : Int).toNat = b1 := by omega
        have hm0 : iC t 401 ((iC t 400 (iv).toNat) : Int).toNat = iC s 401 ((iC t 400 (iv).toNat) : Int).toNat := fm_c F (by decide)
        have hm1 := (p1.2.2 b1 hb2 hb3).1
        rw [← hbn] at hm1
        have hr0 : iC t 403 ((iC t 400 (iv).toNat) : Int).toNat = iC s 403 ((iC t 400 (iv).toNat) : Int).toNat := fm_c F (by decide)
        have hhc : (cHt P ((iC t 400 (iv).toNat) : Int).toNat : Int) = iv := by rw [hbn]; omega
        have hbP : P ((iC t 400 (iv).toNat) : Int).toNat := by rw [hbn]; exact hb3
        have hbu : ((iC t 400 (iv).toNat) : Int).toNat < uN U := by rw [hbn]; exact hb2
        refine z_aload_n X (x := A 179) (show cdA 284 22 = some (.aload_n 0, 1, 0, 0, 0) from rfl) (List.Mem.tail _ (List.Mem.head _)) ?_
        refine s_getR X 179 (show cdA 284 23 = some (.getfield 145, 3, 12, 69, 0) from rfl) (by decide) rfl rfl ?_
        refine z_load_n X (x := (iC t 400 (iv).toNat)) (show cdA 284 26 = some (.iload_n 3, 1, 0, 0, 0) from rfl) (List.Mem.head _) ?_
        refine z_ald X 456 (show cdA 284 27 = some (.iaload, 1, 0, 0, 0) from rfl) (by decide) rfl (by first | exact b3005.1 | omega) (show (iC t 400 (iv).toNat) < 12 by first | exact oq_0ddfcfee b3005.2 | omega) (by decide) ?_
        have b3006 : (0 : Int) ≤ iC t 401 ((iC t 400 (iv).toNat)).toNat ∧ iC t 401 ((iC t 400 (iv).toNat)).toNat ≤ 3 := I.2 401 _ (show ((iC t 400 (iv).toNat)).toNat < 12 by first | exact oq_9c5fa447 b3005.2 | omega)
        refine z_const X (show cdA 284 28 = some (.iconst 1, 1, 0, 0, 0) from rfl) ?_
        refine z_icmp_le X (t := 42) (show cdA 284 29 = some (.if_icmp .le 13, 3, 5, 0, 0) from rfl) (by decide) (rng_to _) (by decide) (fun g3007 => ?_) (fun g3007 => ?_)
        ·
          have hmd : iC s 401 ((iC t 400 (iv).toNat) : Int).toNat = 1 := by omega
          have hWK : WOK (fun k => iC s (405 + ((iC t 400 (iv).toNat) : Int).toNat) k) (iC s 403 ((iC t 400 (iv).toNat) : Int).toNat) := by have z := (p1.2.2 b1 hb2 hb3).2; rw [← hbn] at z; exact z hmd
          have hW1 := hWK.1
          refine z_aload_n X (x := A 179) (show cdA 284 42 = some (.aload_n 0, 1, 0, 0, 0) from rfl) (List.Mem.tail _ (List.Mem.head _)) ?_
          refine s_getR X 179 (show cdA 284 43 = some (.getfield 58, 3, 12, 31, 0) from rfl) (by decide) rfl rfl ?_
          refine z_load_n X (x := (iC t 400 (iv).toNat)) (show cdA 284 46 = some (.iload_n 3, 1, 0, 0, 0) from rfl) (List.Mem.head _) ?_
          refine z_aload_n X (x := A 179) (show cdA 284 47 = some (.aload_n 0, 1, 0, 0, 0) from rfl) (List.Mem.tail _ (List.Mem.head _)) ?_
          refine s_getR X 179 (show cdA 284 48 = some (.getfield 151, 3, 12, 71, 0) from rfl) (by decide) rfl rfl ?_
          refine z_load_n X (x := (iC t 400 (iv).toNat)) (show cdA 284 51 = some (.iload_n 3, 1, 0, 0, 0) from rfl) (List.Mem.head _) ?_
          refine z_ald X 458 (show cdA 284 52 = some (.iaload, 1, 0, 0, 0) from rfl) (by decide) rfl (by first | exact b3005.1 | omega) (show (iC t 400 (iv).toNat) < 12 by first | exact oq_0ddfcfee b3005.2 | omega) (by decide) ?_
          have b3008 : (0 : Int) ≤ iC t 403 ((iC t 400 (iv).toNat)).toNat ∧ iC t 403 ((iC t 400 (iv).toNat)).toNat ≤ 24 := I.2 403 _ (show ((iC t 400 (iv).toNat)).toNat < 12 by first | exact oq_9c5fa447 b3005.2 | omega)
          refine z_ast X 228 (show cdA 284 53 = some (.iastore, 1, 0, 0, 0) from rfl) (by decide) rfl (by first | exact b3005.1 | omega) (show (iC t 400 (iv).toNat) < 12 by first | exact oq_0ddfcfee b3005.2 | omega) (by decide) ?_
          obtain ⟨s3009, hs3009⟩ : ∃ x0, x0 = uC t 202 ((iC t 400 (iv).toNat)).toNat (Int32.ofInt (iC t 403 ((iC t 400 (iv).toNat)).toNat)) := ⟨_, rfl⟩
          rw [← hs3009]
          have Is3009 : Bd s3009 := by rw [hs3009]; exact bd_C I (show (0 : Int) ≤ (iC t 403 ((iC t 400 (iv).toNat)).toNat) ∧ (iC t 403 ((iC t 400 (iv).toNat)).toNat) ≤ 24 by first | exact ⟨b3008.1, b3008.2⟩ | omega) (rng_to _)
          have Fs3009 := fm_C (i := ((iC t 400 (iv).toNat)).toNat) (x := Int32.ofInt (iC t 403 ((iC t 400 (iv).toNat)).toNat)) F (show 202 ∈ _ by decide)
          rw [← hs3009] at Fs3009
          have ws3009_105 : iI s3009 105 = iI t 105 := by rw [hs3009]; rfl
          have ws3009_90 : iI s3009 90 = iI t 90 := by rw [hs3009]; rfl
          have cw3010 : iC s3009 403 ((iC t 400 (iv).toNat)).toNat = iC t 403 ((iC t 400 (iv).toNat)).toNat := by rw [hs3009]; exact iC_a (by omega)
          have fs3009 : Fm [] [202] t s3009 := by rw [hs3009]; exact fm_C (fm_rf _ _ _) (show 202 ∈ _ by decide)
          have JRLx_s3009 : RLx s3009 := RLx_fm fs3009 (by decide) jjRLx
          have JMDJ_s3009 : MDJ U s3009 := MDJ_fm fs3009 (by decide) jjMDJ
          refine z_const X (show cdA 284 54 = some (.iconst 0, 1, 0, 0, 0) from rfl) ?_
          refine z_store X (lv' := [(4, .int (Int32.ofInt 0)), (3, .int (Int32.ofInt (iC t 400 (iv).toNat))), (0, .ref (A 179)), (1, .int (Int32.ofInt xv)), (2, .int (Int32.ofInt iv))]) (show cdA 284 55 = some (.istore 4, 2, 0, 0, 0) from rfl) (by decide) (fun _ h => h) ?_
          refine WS_lv (lv := [(0, .ref (A 179)), (1, .int (Int32.ofInt xv)), (2, .int (Int32.ofInt iv)), (3, .int (Int32.ofInt (iC t 400 (iv).toNat))), (4, .int (Int32.ofInt 0))]) (List.forall_mem_cons.mpr ⟨(List.Mem.tail _ (List.Mem.tail _ (List.Mem.head _))), (List.forall_mem_cons.mpr ⟨(List.Mem.tail _ (List.Mem.tail _ (List.Mem.tail _ (List.Mem.head _)))), (List.forall_mem_cons.mpr ⟨(List.Mem.tail _ (List.Mem.tail _ (List.Mem.tail _ (List.Mem.tail _ (List.Mem.head _))))), (List.forall_mem_cons.mpr ⟨(List.Mem.tail _ (List.Mem.head _)), (List.forall_mem_cons.mpr ⟨(List.Mem.head _), (fun q h => absurd h List.not_mem_nil)⟩)⟩)⟩)⟩)⟩) ?_
          have hMB : AMB U P (MD9 s) (RW9 s) (x : Int).toNat iv ((iC t 400 (iv).toNat) : Int).toNat (iC s 403 ((iC t 400 (iv).toNat) : Int).toNat) s3009 := amb_0 hq (by omega) hbu hhc (by omega) (by rw [hs3009, hr0])
          refine L57 ((128 - 0 : Int).toNat + 1) s3009 xv iv (iC t 400 (iv).toNat) 0 Is3009 Fs3009 JRLx_s3009 JMDJ_s3009 ⟨hMB, fun i _ h => absurd h (by omega)⟩ (by first | exact ⟨And.intro (hi.1) (hb0), And.intro (b3005.1) (b3005.2), hi.2.2.2.2.2, by omega, oq_27118732 hr0 cw3010, oq_1aa5be9e ws3009_105 hi.2.2.2.1, oq_1aa5be9e ws3009_90 hi.2.2.2.2.1, by decide, by decide⟩ | omega) (Nat.lt_succ_self _) ?_
          intro s3011 x3012 Is3011 Fs3011 JRLx_s3011 JMDJ_s3011 Qs3011 hs3011
          have b3013 : (0 : Int) ≤ iI s3011 105 ∧ iI s3011 105 ≤ 12 := Is3011.1 105
          have b3014 : (0 : Int) ≤ iI s3011 90 ∧ iI s3011 90 ≤ 12 := Is3011.1 90
          refine z_const X (show cdA 284 81 = some (.iconst 0, 1, 0, 0, 0) from rfl) ?_
          refine z_store X (lv' := [(4, .int (Int32.ofInt 0)), (0, .ref (A 179)), (1, .int (Int32.ofInt xv)), (2, .int (Int32.ofInt iv)), (3, .int (Int32.ofInt (iC t 400 (iv).toNat)))]) (show cdA 284 82 = some (.istore 4, 2, 0, 0, 0) from rfl) (by decide) (fun _ h => h) ?_
          refine WS_lv (lv := [(0, .ref (A 179)), (1, .int (Int32.ofInt xv)), (2, .int (Int32.ofInt iv)), (3, .int (Int32.ofInt (iC t 400 (iv).toNat))), (4, .int (Int32.ofInt 0))]) (List.forall_mem_cons.mpr ⟨(List.Mem.tail _ (List.Mem.head _)), (List.forall_mem_cons.mpr ⟨(List.Mem.tail _ (List.Mem.tail _ (List.Mem.head _))), (List.forall_mem_cons.mpr ⟨(List.Mem.tail _ (List.Mem.tail _ (List.Mem.tail _ (List.Mem.head _)))), (List.forall_mem_cons.mpr ⟨(List.Mem.tail _ (List.Mem.tail _ (List.Mem.tail _ (List.Mem.tail _ (List.Mem.head _))))), (List.forall_mem_cons.mpr ⟨(List.Mem.head _), (fun q h => absurd h List.not_mem_nil)⟩)⟩)⟩)⟩)⟩) ?_
          refine L84 ((24 - 0 : Int).toNat + 1) s3011 xv iv (iC t 400 (iv).toNat) 0 Is3011 Fs3011 JRLx_s3011 JMDJ_s3011 ⟨⟨Qs3011.1, rlq_0 Qs3011.1.2.1 (fun d hd => Qs3011.2 d hd (by omega))⟩, hWK.2.1⟩ (by first | exact ⟨And.intro (hs3011.1.1) (hs3011.1.2), And.intro (hs3011.2.1.1) (hs3011.2.1.2), hs3011.2.2.1, And.intro (hs3011.2.2.2.1.1) (hs3011.2.2.2.1.2), hs3011.2.2.2.2.1, hs3011.2.2.2.2.2.1, hs3011.2.2.2.2.2.2.1, by decide, oq_2a6e3b50 hs3011.2.2.2.1.1⟩ | omega) (Nat.lt_succ_self _) ?_
          intro s3015 x3016 Is3015 Fs3015 JRLx_s3015 JMDJ_s3015 Qs3015 hs3015
          have b3017 : (0 : Int) ≤ iI s3015 105 ∧ iI s3015 105 ≤ 12 := Is3015.1 105
          have b3018 : (0 : Int) ≤ iI s3015 90 ∧ iI s3015 90 ≤ 12 := Is3015.1 90
          refine z_inc X (x := iv) (lv' := [(2, .int (Int32.ofInt (iv + 1))), (0, .ref (A 179)), (1, .int (Int32.ofInt xv)), (3, .int (Int32.ofInt (iC t 400 (iv).toNat))), (4, .int (Int32.ofInt x3016))]) (show cdA 284 137 = some (.iinc 2 1, 3, 0, 0, 0) from rfl) (by decide) (List.Mem.tail _ (List.Mem.tail _ (List.Mem.head _))) (fun _ h => h) ?_
          refine z_goto X (t := 7) (show cdA 284 140 = some (.goto (-133), 3, 0, 0, 0) from rfl) (by decide) ?_
          refine WS_lv (lv := [(0, .ref (A 179)), (1, .int (Int32.ofInt xv)), (2, .int (Int32.ofInt (iv + 1)))]) (List.forall_mem_cons.mpr ⟨(List.Mem.tail _ (List.Mem.head _)), (List.forall_mem_cons.mpr ⟨(List.Mem.tail _ (List.Mem.tail _ (List.Mem.head _))), (List.forall_mem_cons.mpr ⟨(List.Mem.head _), (fun q h => absurd h List.not_mem_nil)⟩)⟩)⟩) ?_
          exact ih _ xv (iv + 1) Is3015 Fs3015 JRLx_s3015 JMDJ_s3015 (amq_up Qs3015.1.1.1 hbP hhc (Or.inl ⟨hmd, rlq_e Qs3015.1.2 (show x3016 = iC s 403 ((iC t 400 (iv).toNat) : Int).toNat by omega), Qs3015.1.1.2.2⟩)) (by first | exact ⟨hs3015.1.1, And.intro (oq_54f49eb5 hi.2.1.1) (oq_8a89b3ae g3004 hi.2.2.2.1), hi.2.2.1, hs3015.2.2.2.2.2.1, hs3015.2.2.2.2.2.2.1, hs3015.2.2.1⟩ | omega) (by first | exact qk_me hm (by decide) (oq_67fee7f6 g3004 hi.2.2.2.1 hi.2.2.1) | omega) kx
        ·
          refine z_aload_n X (x := A 179) (show cdA 284 32 = some (.aload_n 0, 1, 0, 0, 0) from rfl) (List.Mem.tail _ (List.Mem.head _)) ?_
          refine s_getR X 179 (show cdA 284 33 = some (.getfield 61, 3, 12, 32, 0) from rfl) (by decide) rfl rfl ?_
          refine z_load_n X (x := (iC t 400 (iv).toNat)) (show cdA 284 36 = some (.iload_n 3, 1, 0, 0, 0) from rfl) (List.Mem.head _) ?_
          refine z_const X (show cdA 284 37 = some (.iconst 0, 1, 0, 0, 0) from rfl) ?_
          refine z_ast X 229 (show cdA 284 38 = some (.iastore, 1, 0, 0, 0) from rfl) (by decide) rfl (by first | exact b3005.1 | omega) (show (iC t 400 (iv).toNat) < 12 by first | exact oq_0ddfcfee b3005.2 | omega) (by decide) ?_
          obtain ⟨s3019, hs3019⟩ : ∃ x0, x0 = uC t 203 ((iC t 400 (iv).toNat)).toNat (Int32.ofInt 0) := ⟨_, rfl⟩
          rw [← hs3019]
          have Is3019 : Bd s3019 := by rw [hs3019]; exact bd_C I (show (0 : Int) ≤ 0 ∧ 0 ≤ 50 by first | exact ⟨by decide, by decide⟩ | omega) (by decide)
          have Fs3019 := fm_C (i := ((iC t 400 (iv).toNat)).toNat) (x := Int32.ofInt 0) F (show 203 ∈ _ by decide)
          rw [← hs3019] at Fs3019
          have ws3019_105 : iI s3019 105 = iI t 105 := by rw [hs3019]; rfl
          have ws3019_90 : iI s3019 90 = iI t 90 := by rw [hs3019]; rfl
          have cw3020 : iC s3019 403 ((iC t 400 (iv).toNat)).toNat = iC t 403 ((iC t 400 (iv).toNat)).toNat := by rw [hs3019]; exact iC_a (by omega)
          have fs3019 : Fm [] [203] t s3019 := by rw [hs3019]; exact fm_C (fm_rf _ _ _) (show 203 ∈ _ by decide)
          have JRLx_s3019 : RLx s3019 := RLx_fm fs3019 (by decide) jjRLx
          have JMDJ_s3019 : MDJ U s3019 := MDJ_fm fs3019 (by decide) jjMDJ
          refine z_goto X (t := 137) (show cdA 284 39 = some (.goto 98, 3, 0, 0, 0) from rfl) (by decide) ?_
          refine z_inc X (x := iv) (lv' := [(2, .int (Int32.ofInt (iv + 1))), (3, .int (Int32.ofInt (iC t 400 (iv).toNat))), (0, .ref (A 179)), (1, .int (Int32.ofInt xv))]) (show cdA 284 137 = some (.iinc 2 1, 3, 0, 0, 0) from rfl) (by decide) (List.Mem.tail _ (List.Mem.tail _ (List.Mem.tail _ (List.Mem.head _)))) (fun _ h => h) ?_
          refine z_goto X (t := 7) (show cdA 284 140 = some (.goto (-133), 3, 0, 0, 0) from rfl) (by decide) ?_
          refine WS_lv (lv := [(0, .ref (A 179)), (1, .int (Int32.ofInt xv)), (2, .int (Int32.ofInt (iv + 1)))]) (List.forall_mem_cons.mpr ⟨(List.Mem.tail _ (List.Mem.tail _ (List.Mem.head _))), (List.forall_mem_cons.mpr ⟨(List.Mem.tail _ (List.Mem.tail _ (List.Mem.tail _ (List.Mem.head _)))), (List.forall_mem_cons.mpr ⟨(List.Mem.head _), (fun q h => absurd h List.not_mem_nil)⟩)⟩)⟩) ?_
          exact ih _ xv (iv + 1) Is3019 Fs3019 JRLx_s3019 JMDJ_s3019 (amq_up (amo_w (amo_of hq) (by omega) (by omega) (Or.inr (Or.inr (Or.inr ⟨rfl, rfl⟩))) hs3019) hbP hhc (Or.inr ⟨(show iC s 401 ((iC t 400 (iv).toNat) : Int).toNat ≠ 1 by omega), rwx_m (by omega) (amq_b hq hbu hhc).1 hs3019, (show iC s3019 203 ((iC t 400 (iv).toNat) : Int).toNat = 0 by rw [hs3019]; exact iC_u ⟨by omega, by omega⟩)⟩)) (by first | exact ⟨hi.1, And.intro (oq_54f49eb5 hi.2.1.1) (oq_b1226e90 hi.2.2.2.1 g3004), hi.2.2.1, oq_1aa5be9e ws3019_105 hi.2.2.2.1, oq_1aa5be9e ws3019_90 hi.2.2.2.2.1, hi.2.2.2.2.2⟩ | omega) (by first | exact qk_me hm (by decide) (oq_67fee7f6 g3004 hi.2.2.2.1 hi.2.2.1) | omega) kx
  refine z_aload_n X (x := A 179) (show cdA 284 0 = some (.aload_n 0, 1, 0, 0, 0) from rfl) (List.Mem.head _) ?_
  refine z_load_n X (x := x) (show cdA 284 1 = some (.iload_n 1, 1, 0, 0, 0) from rfl) (List.Mem.tail _ (List.Mem.head _)) ?_
  refine z_callV X 179 (rm := rmN 222) (As := [.int (Int32.ofInt x)]) (st := []) (show cdA 284 2 = some (.invokevirtual 333, 3, 222, 0, 0) from rfl) rfl (by decide) rfl (by rw [E.1, E.2.1, E.2.2.1]; exact k_asTold6 G I jRLx jMDJ (by first | exact ⟨p0.1, p0.2⟩ | omega)) ⟨by rw [E.2.2.2]; exact (show (rmN 222).frames + 1 ≤ (rmN 284).frames by decide), by rw [E.2.2.2]; exact (show 8 + (mNL (miB 222) + 11) + (rmN 222).locals ≤ (rmN 284).locals by decide), by rw [E.2.2.2]; exact (show 0 + (rmN 222).cells ≤ (rmN 284).cells by decide), by rw [E.2.2.2]; exact (show 0 + (rmN 222).slots ≤ (rmN 284).slots by decide)⟩ (Nat.le_of_ble_eq_true rfl) (fun vv s3 hq => ?_) (fun ee s3 hq => ?_)
  rotate_left
  · obtain ⟨Is3, Fs3, JRLx_s3, JNQ_s3, hv, hps3⟩ := hq; cases hv
  obtain ⟨Is3, Fs3, JRLx_s3, JNQ_s3, hv, hps3⟩ := hq
  cases hv
  have Gs3 := fm_ts F Fs3 (by decide) (by decide)
  have JRLx_s3 : RLx s3 := RLx_fm Fs3 (by decide) jRLx
  have JMDJ_s3 : MDJ U s3 := MDJ_fm Fs3 (by decide) jMDJ
  have ws3_105 : iI s3 105 = iI s 105 := fm_i Fs3 (by decide)
  have ws3_90 : iI s3 90 = iI s 90 := fm_i Fs3 (by decide)
  show WS k 5 [(0, .ref (A 179)), (1, .int (Int32.ofInt x))] [] (Wd A dT s3) 0 0
  have hA0 : AMQ U P (MD9 s) (RW9 s) (x : Int).toNat 0 s3 := amq_0 JMDJ_s3 JNQ_s3 hps3
  refine z_const X (show cdA 284 5 = some (.iconst 0, 1, 0, 0, 0) from rfl) ?_
  refine z_store_n X (lv' := [(2, .int (Int32.ofInt 0)), (0, .ref (A 179)), (1, .int (Int32.ofInt x))]) (show cdA 284 6 = some (.istore_n 2, 1, 0, 0, 0) from rfl) (by decide) (fun _ h => h) ?_
  refine WS_lv (lv := [(0, .ref (A 179)), (1, .int (Int32.ofInt x)), (2, .int (Int32.ofInt 0))]) (List.forall_mem_cons.mpr ⟨(List.Mem.tail _ (List.Mem.head _)), (List.forall_mem_cons.mpr ⟨(List.Mem.tail _ (List.Mem.tail _ (List.Mem.head _))), (List.forall_mem_cons.mpr ⟨(List.Mem.head _), (fun q h => absurd h List.not_mem_nil)⟩)⟩)⟩) ?_
  refine L7 ((8 - 0 : Int).toNat + 1) s3 x 0 Is3 Gs3 JRLx_s3 JMDJ_s3 hA0 (by first | exact ⟨by decide, And.intro (by decide) (b1.1), by omega, ws3_105, ws3_90, by omega⟩ | omega) (Nat.lt_succ_self _) ?_
  intro s5 x6 Is5 Fs5 JRLx_s5 JMDJ_s5 Qs5 hs5
  have b7 : (0 : Int) ≤ iI s5 105 ∧ iI s5 105 ≤ 12 := Is5.1 105
  have b8 : (0 : Int) ≤ iI s5 90 ∧ iI s5 90 ≤ 12 := Is5.1 90
  exact w_vret X.1 q hRt (ax_d X (show cdA 284 143 = some (.return_, 1, 0, 0, 0) from rfl)) (Nat.zero_le _) (Nat.zero_le _) ⟨_, rfl, Is5, Fs5, JRLx_s5, rfl, (by have z := Qs5; rw [show x6 = iI s 105 by omega] at z; exact z)⟩
end M87lb

end
section
theorem oq_fd118a2d {a0 a1 a2 : Int} (h0 : a0 ≤ (3000 * a1)) (h1 : a1 = a2) (h2 : a2 ≤ 12) : a0 ≤ 2147483647 := by omega
theorem oq_8af9d5df {a0 : Int} (h0 : a0 ≠ 0) (h1 : 0 ≤ a0) : 0 ≤ (a0 - 1) := by omega
theorem oq_0c00f521 {a0 a1 a2 : Int} (h0 : a0 ≠ a1) (h1 : a2 ≤ (3000 * a0)) (h2 : 0 ≤ a2) (h3 : a0 ≤ a1) : (0 ≤ a0 ∧ a0 < a1) := by omega
/-! Mends: model, the search -/
theorem nmh_m {S : Int → Prop} {w : WyS} {mo mo' : Nat → Int} {n : Nat} {pc : Int} (h : ∀ x, x < n → mo x = mo' x) : nmH S w mo n pc = nmH S w mo' n pc := by
  have e1 : waH S w mo n = waH S w mo' n := sm_eq (fun x hx => by
    show i01 (viH S (w.1 x) (w.2 x)) * mo x = i01 (viH S (w.1 x) (w.2 x)) * mo' x
    rw [h x hx])
  have e2 : oaH S w mo n = oaH S w mo' n := sm_eq (fun x hx => by
    show mo x * ovH S (w.1 x) (w.2 x - 1).toNat = mo' x * ovH S (w.1 x) (w.2 x - 1).toNat
    rw [h x hx])
  have e3 : caH S w mo n = caH S w mo' n := sm_eq (fun x hx => by
    show mo x * clH S (w.1 x) (w.2 x - 1).toNat = mo' x * clH S (w.1 x) (w.2 x - 1).toNat
    rw [h x hx])
  have e4 : crH S w mo n = crH S w mo' n := sm_eq (fun a ha => sm_eq (fun b hb => by
    show (if a < b then mtW S (w.1 a) (w.1 b) (w.2 a) (w.2 b) * min (mo a) (mo b) else 0) = if a < b then mtW S (w.1 a) (w.1 b) (w.2 a) (w.2 b) * min (mo' a) (mo' b) else 0
    rw [h a ha, h b hb]))
  exact funext (fun j => by unfold nmH; rw [e1, e2, e3, e4])
theorem moc_k {U : AirD} {S : Int → Prop} {q x : Nat} {md h : Nat → Int} (hn : cHt (hitP U S q) (uN U) ≤ 8) (hh : ∀ x, x < uN U → hitP U S q x → h (cHt (hitP U S q) x) = md x) (hx : x < uN U) : moC U (PcH (hitP U S q) (cHt (hitP U S q) (uN U) : Int)) md q x = moK U S q (msI h 1 (cHt (hitP U S q) (uN U))) x := by
  by_cases p : hitP U S q x
  · have hl := cht_lt (P := hitP U S q) hx p
    have hb := msi_bt (h := h) (g := 1) (p := cHt (hitP U S q) x) (by omega) (cHt (hitP U S q) (uN U)) hn
    by_cases m : md x = 1
    · rw [mok_y p (hb.mpr ⟨hl, (hh x hx p).trans m⟩)]
      exact piq_n (fun y => y.2 m)
    · rw [mok_0 p (fun z => m ((hh x hx p).symm.trans (hb.mp z).2))]
      exact piq_y ⟨⟨p, by omega⟩, m⟩
  · rw [mok_n p]
    exact piq_n (fun y => p y.1.1)
theorem lf_eq {U : AirD} {S : Int → Prop} {q : Nat} {md h f lim : Nat → Int} {w : WyS} (hn : cHt (hitP U S q) (uN U) ≤ 8) (hh : ∀ x, x < uN U → hitP U S q x → h (cHt (hitP U S q) x) = md x) (hw : ∀ x, x < uN U → hitP U S q x → md x = 1 → zF U S x ≠ 0 ∧ w.2 x = zF U S x ∧ ∀ k : Nat, (k : Int) < w.2 x → w.1 x k = pF9 U S x k) (hm : ∀ x, x < uN U → 0 ≤ uM U q x) : fitQ (uC9 U (wyC U (PcH (hitP U S q) (cHt (hitP U S q) (uN U) : Int)) md w)) (moC U (PcH (hitP U S q) (cHt (hitP U S q) (uN U) : Int)) md q) f lim 8 ↔ fitK9 U S q f lim (msI h 1 (cHt (hitP U S q) (uN U))) := by
  have e : ∀ p : Nat, nmH (pcS f (p : Int)) (wyC U (PcH (hitP U S q) (cHt (hitP U S q) (uN U) : Int)) md w) (moC U (PcH (hitP U S q) (cHt (hitP U S q) (uN U) : Int)) md q) (uN U) 1 = nmH (pcS f (p : Int)) (wyF U S (hitP U S q)) (moK U S q (msI h 1 (cHt (hitP U S q) (uN U)))) (uN U) 1 := fun p => by
    rw [nmh_m (fun x hx => moc_k hn hh hx)]
    refine nmh_z (fun x hx => ?_)
    by_cases p : hitP U S q x
    · have hl := cht_lt (P := hitP U S q) hx p
      have hb := msi_bt (h := h) (g := 1) (p := cHt (hitP U S q) x) (by omega) (cHt (hitP U S q) (uN U)) hn
      by_cases m : md x = 1
      · obtain ⟨w1, w2, w3⟩ := hw x hx p m
        have hp : PcH (hitP U S q) (cHt (hitP U S q) (uN U) : Int) x ∧ md x = 1 := ⟨⟨p, by omega⟩, m⟩
        refine ⟨by rw [mok_y p (hb.mpr ⟨hl, (hh x hx p).trans m⟩)]; exact hm x hx, fun _ => ?_⟩
        rw [(wyc_y hp).1, (wyc_y hp).2, (wyf_r (P := hitP U S q) ⟨p, w1⟩).1]
        exact ⟨w2, fun k hk => by rw [(wyf_r (P := hitP U S q) ⟨p, w1⟩).2]; exact w3 k hk⟩
      · have z := mok_0 (k := msI h 1 (cHt (hitP U S q) (uN U))) p (fun z => m ((hh x hx p).symm.trans (hb.mp z).2))
        exact ⟨by rw [z]; exact Int.le_refl _, fun y => absurd z y⟩
    · have hp : ¬ (PcH (hitP U S q) (cHt (hitP U S q) (uN U) : Int) x ∧ md x = 1) := fun y => p y.1.1
      refine ⟨by rw [mok_n p]; exact hm x hx, fun _ => ?_⟩
      rw [(wyc_n hp).1, (wyc_n hp).2, (wyf_o (P := hitP U S q) (fun y => p y.1)).1]
      exact ⟨rfl, fun k _ => ((wyf_o (P := hitP U S q) (fun y => p y.1)).2 k).symm⟩
  constructor
  · intro z p hp hf
    have y := z p hp hf
    show (uL U (nmH (pcS f (p : Int)) (wyF U S (hitP U S q)) (moK U S q (msI h 1 (cHt (hitP U S q) (uN U)))) (uN U) 1)).toInt ≤ lim p
    rw [← e p]; exact y
  · intro z p hp hf
    have y := z p hp hf
    replace y : (uL U (nmH (pcS f (p : Int)) (wyF U S (hitP U S q)) (moK U S q (msI h 1 (cHt (hitP U S q) (uN U)))) (uN U) 1)).toInt ≤ lim p := y
    rw [← e p] at y; exact y
noncomputable def gt1 (mo rd : Nat → Int) (ft : Int → Prop) (n : Nat) (h : Nat → Int) (x : Nat) (y z w : Int) (B : MdO) : MdO := apB (rd x ≠ -1) (fun C => trB mo rd ft n (n - (x + 1)) (upH h x 1) (y + rd x) z w C) B
noncomputable def gt2 (mo rd : Nat → Int) (ft : Int → Prop) (n : Nat) (h : Nat → Int) (x : Nat) (y z w : Int) (B : MdO) : MdO := apB (0 < z) (fun C => trB mo rd ft n (n - (x + 1)) (upH h x 2) (y + 15 * mo x) (z - 1) w C) B
noncomputable def gt3 (mo rd : Nat → Int) (ft : Int → Prop) (n : Nat) (h : Nat → Int) (x : Nat) (y z w : Int) (B : MdO) : MdO := apB (0 < w) (fun C => trB mo rd ft n (n - (x + 1)) (upH h x 3) (y + 60 * mo x) z (w - 1) C) B
/-- the best so far ahead of the mend m -/
noncomputable def gtB (mo rd : Nat → Int) (ft : Int → Prop) (n : Nat) (h : Nat → Int) (x : Nat) (y z w : Int) (B : MdO) (m : Int) : MdO := if m = 1 then B else if m = 2 then gt1 mo rd ft n h x y z w B else if m = 3 then gt2 mo rd ft n h x y z w (gt1 mo rd ft n h x y z w B) else gt3 mo rd ft n h x y z w (gt2 mo rd ft n h x y z w (gt1 mo rd ft n h x y z w B))
theorem gt_e {mo rd : Nat → Int} {ft : Int → Prop} {n : Nat} {h : Nat → Int} {x : Nat} {y z w : Int} {B : MdO} (hx : x < n) (hl : lsB B y) : trB mo rd ft n (n - x) h y z w B = gtB mo rd ft n h x y z w B 4 := by
  rw [show n - x = n - (x + 1) + 1 by omega]
  refine (piq_y hl).trans ?_
  rw [show n - (n - (x + 1) + 1) = x by omega]
  rfl
abbrev mdM (s : PS) : Nat → Int := fun i => iC s 401 (iC s 400 i).toNat
def BSO9 (U : AirD) (P : Nat → Prop) : MdO → PS → Prop
  | none, s => iI s 106 = -1
  | some b, s => (iI s 106 = b.1 ∧ 0 ≤ b.1) ∧ (∀ j, j < cHt P (uN U) → iC s 402 (hAt P j) = b.2 j) ∧ ∀ x, x < uN U → ¬ P x → iC s 402 x = 0
theorem bso9_s {U : AirD} {P : Nat → Prop} {B : MdO} {s t : PS} (h : BSO9 U P B s) (e1 : iI t 106 = iI s 106) (e2 : SAM 402 s t) : BSO9 U P B t := by
  cases B with
  | none => exact e1.trans (show iI s 106 = -1 from h)
  | some b => exact ⟨⟨e1.trans h.1.1, h.1.2⟩, fun j hj => (e2 _).trans (h.2.1 j hj), fun x hx p => (e2 _).trans (h.2.2 x hx p)⟩
theorem bso9_l {U : AirD} {P : Nat → Prop} {B : MdO} {s : PS} {m : Int} (h : BSO9 U P B s) : lsB B m ↔ (iI s 106 = -1 ∨ m < iI s 106) := by
  cases B with
  | none => exact ⟨fun _ => Or.inl h, fun _ => trivial⟩
  | some b =>
    have z := h.1
    show m < b.1 ↔ _
    omega
/-- what stands in a search: who is hit, the ways round, what is full -/
def GTJ (U : AirD) (S : Int → Prop) (q : Nat) (ft : Int → Prop) (s : PS) : Prop := ((iI s 105 = (cHt (hitP U S q) (uN U) : Int) ∧ iI s 105 ≤ 8) ∧ HTQ (hitP U S q) (uN U) (fun j => iC s 400 j)) ∧ (∀ x, x < uN U → hitP U S q x → RNR S (fsA U x) (lsA U x) (iC s 403 x) (fun k => iC s (405 + x) k)) ∧ iI s 89 = 1 ∧ (q < 24 ∧ uN U ≤ 12 ∧ ∀ x, x < uN U → 0 ≤ uM U q x ∧ uM U q x ≤ 50) ∧ ft = fitK9 U S q (pfM s) (fun j => iC s 229 j)
theorem GTJ_fm {U : AirD} {S : Int → Prop} {q : Nat} {ft : Int → Prop} {L M : List Nat} {s t : PS} (F : Fm L M s t) (h : (105 ∉ L ∧ 89 ∉ L) ∧ (400 ∉ M ∧ 403 ∉ M ∧ 228 ∉ M ∧ 229 ∉ M) ∧ ∀ i, i < 12 → 405 + i ∉ M) (r : GTJ U S q ft s) : GTJ U S q ft t := by
  obtain ⟨⟨r1, r2⟩, r3, r4, r5, r6⟩ := r
  have hn := r5.2.1
  have e1 : iI t 105 = iI s 105 := fm_i F h.1.1
  have e2 : (fun j => iC t 400 j) = fun j => iC s 400 j := funext (fun j => fm_c F h.2.1.1)
  have e3 : pfM t = pfM s := funext (fun j => fm_c F h.2.1.2.2.1)
  have e4 : (fun j => iC t 229 j) = fun j => iC s 229 j := funext (fun j => fm_c F h.2.1.2.2.2)
  refine ⟨⟨by rw [e1]; exact r1, by rw [e2]; exact r2⟩, fun x hx p => ?_, (fm_i F h.1.2).trans r4, r5, by rw [e3, e4]; exact r6⟩
  rw [fm_c F h.2.1.2.1, show (fun k => iC t (405 + x) k) = fun k => iC s (405 + x) k from funext (fun k => fm_c F (h.2.2 x (by omega)))]
  exact r3 x hx p
def MZJ (U : AirD) (P : Nat → Prop) (s : PS) : Prop := ∀ x, x < uN U → ¬ P x → iC s 401 x = 0
theorem MZJ_fm {U : AirD} {P : Nat → Prop} {L M : List Nat} {s t : PS} (F : Fm L M s t) (h : 401 ∉ M) (r : MZJ U P s) : MZJ U P t := fun x hx p => (fm_c F h).trans (r x hx p)
/-- ahead of a call -/
def GTP (U : AirD) (P : Nat → Prop) (B : MdO) (x : Int) (s : PS) : Prop := BSO9 U P B s ∧ ∀ j : Nat, j < x.toNat → (1 ≤ mdM s j ∧ mdM s j ≤ 3) ∧ (mdM s j = 1 → iC s 403 (iC s 400 j).toNat ≠ 0)
def TSM (U : AirD) (P : Nat → Prop) (B : MdO) (x : Int) (s t : PS) : Prop := BSO9 U P B t ∧ ∀ j : Nat, j < x.toNat → mdM t j = mdM s j
def GTQ (U : AirD) (S : Int → Prop) (q : Nat) (ft : Int → Prop) (B : MdO) (x y z w : Int) (s t : PS) : Prop := TSM U (hitP U S q) (trB (hmoS U S q) (hrdS U S q) ft (cHt (hitP U S q) (uN U)) (cHt (hitP U S q) (uN U) - x.toNat) (mdM s) y z w B) x s t
theorem gtj_at {U : AirD} {S : Int → Prop} {q : Nat} {ft : Int → Prop} {s : PS} (h : GTJ U S q ft s) {j : Nat} (hj : j < cHt (hitP U S q) (uN U)) : iC s 400 j = (hAt (hitP U S q) j : Int) ∧ hAt (hitP U S q) j < uN U ∧ hitP U S q (hAt (hitP U S q) j) ∧ cHt (hitP U S q) (hAt (hitP U S q) j) = j := by
  obtain ⟨s1, s2, s3, s4, s5⟩ := htq_at h.1.2 hj
  rw [hat_eq s3 s4]
  exact ⟨s5, s2, s3, s4⟩
theorem gtq_no {U : AirD} {S : Int → Prop} {q : Nat} {ft : Int → Prop} {B : MdO} {x y z w : Int} {s : PS} (h : GTP U (hitP U S q) B x s) (hb : iI s 106 ≠ -1 ∧ iI s 106 ≤ y) : GTQ U S q ft B x y z w s s := by
  unfold GTQ
  rw [trb_no (fun k => by have := (bso9_l h.1).mp k; omega)]
  exact ⟨h.1, fun _ _ => rfl⟩
/-- all chosen: what the mended air needs -/
theorem gt_hmq {U : AirD} {S : Int → Prop} {q : Nat} {ft : Int → Prop} {B : MdO} {x : Int} {s : PS} (d : MDJ U s) (j : GTJ U S q ft s) (h : GTP U (hitP U S q) B x s) (hx : x = iI s 105) : HMQ U (hitP U S q) s := ⟨j.1.1, j.1.2, fun b hb p => by
  have hl := cht_lt (P := hitP U S q) hb p
  have e : iC s 400 (cHt (hitP U S q) b) = (b : Int) := j.1.2 b hb p
  have z := h.2 (cHt (hitP U S q) b) (by have := j.1.1.1; omega)
  unfold mdM at z
  rw [show (iC s 400 (cHt (hitP U S q) b)).toNat = b by omega] at z
  refine ⟨z.1, fun m => rnr_wok (j.2.1 b hb p) ?_ (z.2 m)⟩
  have w := d.2.2.1 b hb
  exact w.2.1 0 (by have := w.1; omega)⟩
theorem gt_md {U : AirD} {S : Int → Prop} {q : Nat} {ft : Int → Prop} {s : PS} (j : GTJ U S q ft s) : ∀ x, x < uN U → hitP U S q x → mdM s (cHt (hitP U S q) x) = MD9 s x := fun x hx p => by
  have e : iC s 400 (cHt (hitP U S q) x) = (x : Int) := j.1.2 x hx p
  show iC s 401 (iC s 400 (cHt (hitP U S q) x)).toNat = iC s 401 x
  rw [show (iC s 400 (cHt (hitP U S q) x)).toNat = x by omega]
theorem gt_rw {U : AirD} {S : Int → Prop} {q : Nat} {ft : Int → Prop} {B : MdO} {x : Int} {s : PS} (j : GTJ U S q ft s) (h : GTP U (hitP U S q) B x s) (hx : x = iI s 105) : ∀ x, x < uN U → hitP U S q x → MD9 s x = 1 → zF U S x ≠ 0 ∧ (RW9 s).2 x = zF U S x ∧ ∀ k : Nat, (k : Int) < (RW9 s).2 x → (RW9 s).1 x k = pF9 U S x k := fun b hb p m => by
  have r := rnz_eq (j.2.1 b hb p)
  have hl := cht_lt (P := hitP U S q) hb p
  have z := (h.2 (cHt (hitP U S q) b) (by have := j.1.1.1; omega)).2 ((gt_md j b hb p).trans m)
  have e : iC s 400 (cHt (hitP U S q) b) = (b : Int) := j.1.2 b hb p
  rw [show (iC s 400 (cHt (hitP U S q) b)).toNat = b by omega] at z
  have r1 : iC s 403 b = zF U S b := r.1
  exact ⟨by rw [← r1]; exact z, r1, r.2⟩
theorem gt_mdl {U : AirD} {w : WyS} {s t : PS} (d : MDJ U s) (e : iI t 90 = iI s 90) (l : LDM (uL U) t) (hk : ∀ x, x < uN U → WOK (w.1 x) (w.2 x)) : MDL (uC9 U w) t := ⟨⟨e.trans d.1.1, d.1.2⟩, hk, l⟩
theorem gt_wok {U : AirD} {P : Nat → Prop} {c : Int} {s : PS} (d : MDJ U s) (h : HMQ U P s) : ∀ x, x < uN U → WOK ((wyC U (PcH P c) (MD9 s) (RW9 s)).1 x) ((wyC U (PcH P c) (MD9 s) (RW9 s)).2 x) := fun x hx => by
  by_cases z : PcH P c x ∧ MD9 s x = 1
  · rw [(wyc_y z).1, (wyc_y z).2]; exact (h.2.2 x hx z.1.1).2 z.2
  · rw [(wyc_n z).1, (wyc_n z).2]; exact d.2.2.1 x hx
/-- all are chosen: kept or not -/
theorem gtq_0 {U : AirD} {S : Int → Prop} {q : Nat} {ft : Int → Prop} {B : MdO} {x y z w : Int} {s t : PS} (j : GTJ U S q ft s) (h : GTP U (hitP U S q) B x s) (hx : x = iI s 105) (hn : ¬ ft (msI (mdM s) 1 (cHt (hitP U S q) (uN U)))) (e1 : iI t 106 = iI s 106) (e2 : SAM 402 s t) (e3 : ∀ i, mdM t i = mdM s i) : GTQ U S q ft B x y z w s t := by
  unfold GTQ
  have en := j.1.1.1
  rw [show cHt (hitP U S q) (uN U) - x.toNat = 0 by omega]
  have e : trB (hmoS U S q) (hrdS U S q) ft (cHt (hitP U S q) (uN U)) 0 (mdM s) y z w B = B := piq_n (fun k => hn k.2)
  rw [e]
  exact ⟨bso9_s h.1 e1 e2, fun i _ => e3 i⟩
theorem gtq_1 {U : AirD} {S : Int → Prop} {q : Nat} {ft : Int → Prop} {B : MdO} {x y z w : Int} {s t : PS} (j : GTJ U S q ft s) (mz : MZJ U (hitP U S q) s) (h : GTP U (hitP U S q) B x s) (hx : x = iI s 105) (hf : ft (msI (mdM s) 1 (cHt (hitP U S q) (uN U)))) (hl : lsB B y) (y0 : 0 ≤ y) (e1 : iI t 106 = y) (e2 : ∀ x, x < 12 → iC t 402 x = iC s 401 x) (hn : uN U ≤ 12) (e3 : ∀ i, mdM t i = mdM s i) : GTQ U S q ft B x y z w s t := by
  unfold GTQ
  have en := j.1.1.1
  rw [show cHt (hitP U S q) (uN U) - x.toNat = 0 by omega]
  have e : trB (hmoS U S q) (hrdS U S q) ft (cHt (hitP U S q) (uN U)) 0 (mdM s) y z w B = some (y, trH (mdM s) (cHt (hitP U S q) (uN U))) := piq_y ⟨hl, hf⟩
  rw [e]
  refine ⟨⟨⟨e1, y0⟩, fun i hi => ?_, fun b hb p => (e2 b (by omega)).trans (mz b hb p)⟩, fun i _ => e3 i⟩
  obtain ⟨a1, a2, a3, a4⟩ := gtj_at j hi
  show iC t 402 (hAt (hitP U S q) i) = if i < cHt (hitP U S q) (uN U) then mdM s i else _
  rw [if_pos hi, e2 _ (by omega)]
  show _ = iC s 401 (iC s 400 i).toNat
  rw [a1]; rfl
theorem mdm_u {U : AirD} {S : Int → Prop} {q : Nat} {ft : Int → Prop} {x m : Int} {s t u : PS} (j : GTJ U S q ft t) (x0 : 0 ≤ x ∧ x < iI t 105) (m0 : 0 ≤ m ∧ m ≤ 3) (hs : ∀ i : Nat, i < x.toNat → mdM t i = mdM s i) (hu : u = uC t 401 (iC t 400 x.toNat).toNat (Int32.ofInt m)) : ∀ i : Nat, i < x.toNat + 1 → mdM u i = upH (mdM s) x.toNat m i := fun i hi => by
  have en := j.1.1.1
  have eh : iC u 400 i = iC t 400 i := by rw [hu]; exact iC_a (by decide)
  show iC u 401 (iC u 400 i).toNat = if i = x.toNat then m else mdM s i
  rw [eh]
  by_cases z : i = x.toNat
  · rw [if_pos z, z, hu]; exact iC_u ⟨by omega, by omega⟩
  · obtain ⟨a1, a2, a3, a4⟩ := gtj_at j (j := i) (by omega)
    obtain ⟨b1, b2, b3, b4⟩ := gtj_at j (j := x.toNat) (by omega)
    have ne : hAt (hitP U S q) i ≠ hAt (hitP U S q) x.toNat := fun w => z (by rw [← a4, ← b4, w])
    rw [if_neg z, hu, iC_n (by rw [a1, b1]; omega)]
    exact hs i (by omega)
/-- one mend tried -/
theorem tsm_call {U : AirD} {S : Int → Prop} {q : Nat} {ft : Int → Prop} {B : MdO} {x m y z w : Int} {s t u r : PS} (j : GTJ U S q ft t) (h : TSM U (hitP U S q) B x s t) (x0 : 0 ≤ x ∧ x < iI t 105) (m0 : 0 ≤ m ∧ m ≤ 3) (hu : u = uC t 401 (iC t 400 x.toNat).toNat (Int32.ofInt m)) (g : GTQ U S q ft B (x + 1) y z w u r) : TSM U (hitP U S q) (trB (hmoS U S q) (hrdS U S q) ft (cHt (hitP U S q) (uN U)) (cHt (hitP U S q) (uN U) - (x.toNat + 1)) (upH (mdM s) x.toNat m) y z w B) x s r := by
  have md := mdm_u j x0 m0 h.2 hu
  have en := j.1.1.1
  obtain ⟨g1, g2⟩ := g
  rw [show (x + 1).toNat = x.toNat + 1 by omega] at g1 g2
  have e : trB (hmoS U S q) (hrdS U S q) ft (cHt (hitP U S q) (uN U)) (cHt (hitP U S q) (uN U) - (x.toNat + 1)) (mdM u) y z w B = trB (hmoS U S q) (hrdS U S q) ft (cHt (hitP U S q) (uN U)) (cHt (hitP U S q) (uN U) - (x.toNat + 1)) (upH (mdM s) x.toNat m) y z w B := trb_c (fun _ _ => ⟨rfl, rfl⟩) _ (Nat.sub_le _ _) (fun i hi => md i (by omega))
  rw [e] at g1
  exact ⟨g1, fun i hi => by rw [g2 i (by omega), md i (by omega)]; exact if_neg (by omega)⟩
/-- ahead of the call -/
theorem gtp_in {U : AirD} {S : Int → Prop} {q : Nat} {ft : Int → Prop} {B B' : MdO} {x m : Int} {s t u : PS} (j : GTJ U S q ft t) (p : GTP U (hitP U S q) B' x s) (h : TSM U (hitP U S q) B x s t) (er : ∀ i, iC t 403 i = iC s 403 i) (eh : ∀ i, iC t 400 i = iC s 400 i) (x0 : 0 ≤ x ∧ x < iI t 105) (m0 : 1 ≤ m ∧ m ≤ 3) (hu : u = uC t 401 (iC t 400 x.toNat).toNat (Int32.ofInt m)) (h1 : m = 1 → iC t 403 (iC t 400 x.toNat).toNat ≠ 0) : GTP U (hitP U S q) B (x + 1) u := by
  have md := mdm_u j x0 (by omega) h.2 hu
  have e1 : iI u 106 = iI t 106 := by rw [hu]; rfl
  have e2 : ∀ i, iC u 400 i = iC t 400 i := fun i => by rw [hu]; exact iC_a (by decide)
  have e3 : ∀ i, iC u 403 i = iC t 403 i := fun i => by rw [hu]; exact iC_a (by decide)
  refine ⟨bso9_s h.1 e1 (fun i => by rw [hu]; exact iC_a (by decide)), fun i hi => ?_⟩
  rw [show (x + 1).toNat = x.toNat + 1 by omega] at hi
  rw [md i hi, e3, e2]
  by_cases z : i = x.toNat
  · rw [z, show upH (mdM s) x.toNat m x.toNat = m from if_pos rfl]
    exact ⟨m0, h1⟩
  · rw [show upH (mdM s) x.toNat m i = mdM s i from if_neg z, er, eh]
    exact p.2 i (by omega)
theorem gtp_fm {U : AirD} {P : Nat → Prop} {B : MdO} {x : Int} {L M : List Nat} {s t : PS} (F : Fm L M s t) (h : 106 ∉ L ∧ 402 ∉ M ∧ 401 ∉ M ∧ 400 ∉ M ∧ 403 ∉ M) (p : GTP U P B x s) : GTP U P B x t := by
  have e1 : ∀ j, iC t 400 j = iC s 400 j := fun j => fm_c F h.2.2.2.1
  have e2 : ∀ j, iC t 401 j = iC s 401 j := fun j => fm_c F h.2.2.1
  have e3 : ∀ j, iC t 403 j = iC s 403 j := fun j => fm_c F h.2.2.2.2
  refine ⟨bso9_s p.1 (fm_i F h.1) (fun i => fm_c F h.2.1), fun j hj => ?_⟩
  show (1 ≤ iC t 401 (iC t 400 j).toNat ∧ iC t 401 (iC t 400 j).toNat ≤ 3) ∧ (iC t 401 (iC t 400 j).toNat = 1 → iC t 403 (iC t 400 j).toNat ≠ 0)
  rw [e1, e2, e3]
  exact p.2 j hj
theorem gtq_s {U : AirD} {S : Int → Prop} {q : Nat} {ft : Int → Prop} {B : MdO} {x y z w : Int} {a b r : PS} (e : ∀ j, mdM a j = mdM b j) (h : GTQ U S q ft B x y z w a r) : GTQ U S q ft B x y z w b r := by
  have e' : mdM b = mdM a := funext (fun j => (e j).symm)
  unfold GTQ at h ⊢
  rw [e']
  exact ⟨h.1, fun j hj => (h.2 j hj).trans (e j)⟩
theorem hrd_z {U : AirD} {S : Int → Prop} {q : Nat} {ft : Int → Prop} {s : PS} (j : GTJ U S q ft s) {x : Nat} (hx : x < cHt (hitP U S q) (uN U)) (hm : ∀ b, b < uN U → 0 ≤ uM U q b) : (iC s 403 (iC s 400 x).toNat = 0 ↔ hrdS U S q x = -1) ∧ (iC s 403 (iC s 400 x).toNat ≠ 0 → hrdS U S q x = 2 * (if 0 < iC s 403 (iC s 400 x).toNat - (uW U).2 (iC s 400 x).toNat then iC s 403 (iC s 400 x).toNat - (uW U).2 (iC s 400 x).toNat else 0) * uM U q (iC s 400 x).toNat) := by
  obtain ⟨a1, a2, a3, a4⟩ := gtj_at j hx
  have r := (rnz_eq (j.2.1 _ a2 a3)).1
  replace r : iC s 403 (hAt (hitP U S q) x) = zF U S (hAt (hitP U S q) x) := r
  rw [a1, show ((hAt (hitP U S q) x : Nat) : Int).toNat = hAt (hitP U S q) x by omega, r]
  unfold hrdS rdX
  by_cases c : zF U S (hAt (hitP U S q) x) = 0
  · rw [piq_y c]
    exact ⟨⟨fun _ => rfl, fun _ => c⟩, fun w => absurd c w⟩
  · rw [piq_n c]
    refine ⟨⟨fun w => absurd w c, fun w => ?_⟩, fun _ => rfl⟩
    have m := hm _ a2
    exfalso
    by_cases d : 0 < zF U S (hAt (hitP U S q) x) - (uW U).2 (hAt (hitP U S q) x)
    · rw [if_pos d] at w
      have := Int.mul_nonneg (show 0 ≤ 2 * (zF U S (hAt (hitP U S q) x) - (uW U).2 (hAt (hitP U S q) x)) by omega) m
      omega
    · rw [if_neg d] at w
      simp at w
theorem hmo_at {U : AirD} {S : Int → Prop} {q : Nat} {ft : Int → Prop} {s : PS} (j : GTJ U S q ft s) {x : Nat} (hx : x < cHt (hitP U S q) (uN U)) : hmoS U S q x = uM U q (iC s 400 x).toNat := by
  obtain ⟨a1, a2, a3, a4⟩ := gtj_at j hx
  rw [a1]; rfl
theorem mdm_fm {L M : List Nat} {s t : PS} (F : Fm L M s t) (h : 401 ∉ M ∧ 400 ∉ M) : ∀ i, mdM t i = mdM s i := fun i => by
  show iC t 401 (iC t 400 i).toNat = iC s 401 (iC s 400 i).toNat
  rw [fm_c F h.2, fm_c F h.1]
theorem mzj_u {U : AirD} {S : Int → Prop} {q : Nat} {ft : Int → Prop} {x : Int} {v : Int32} {t u : PS} (j : GTJ U S q ft t) (x0 : 0 ≤ x ∧ x < iI t 105) (h : MZJ U (hitP U S q) t) (hu : u = uC t 401 (iC t 400 x.toNat).toNat v) : MZJ U (hitP U S q) u := fun b hb p => by
  obtain ⟨b1, b2, b3, b4⟩ := gtj_at j (j := x.toNat) (by have := j.1.1.1; omega)
  rw [hu, iC_n (fun w => p (by rw [w, b1]; exact b3))]
  exact h b hb p
theorem tsm_off {U : AirD} {S : Int → Prop} {q : Nat} {ft : Int → Prop} {B : MdO} {x : Int} {s t u : PS} (j : GTJ U S q ft t) (h : TSM U (hitP U S q) B x s t) (x0 : 0 ≤ x ∧ x < iI t 105) (hu : u = uC t 401 (iC t 400 x.toNat).toNat (Int32.ofInt 0)) : TSM U (hitP U S q) B x s u := by
  have md := mdm_u j x0 (m := 0) (by omega) h.2 hu
  refine ⟨bso9_s h.1 (by rw [hu]; rfl) (fun i => by rw [hu]; exact iC_a (by decide)), fun i hi => ?_⟩
  rw [md i (by omega)]; exact if_neg (by omega)
section GTB
variable {mo rd : Nat → Int} {ft : Int → Prop} {n : Nat} {h : Nat → Int} {x : Nat} {y z w : Int} {B : MdO}
theorem gtb_1 (c : rd x ≠ -1) : gtB mo rd ft n h x y z w B 2 = trB mo rd ft n (n - (x + 1)) (upH h x 1) (y + rd x) z w (gtB mo rd ft n h x y z w B 1) := by unfold gtB; rw [if_neg (by decide), if_pos rfl, if_pos rfl]; exact ap_y c
theorem gtb_1n (c : ¬ rd x ≠ -1) : gtB mo rd ft n h x y z w B 2 = gtB mo rd ft n h x y z w B 1 := by unfold gtB; rw [if_neg (by decide), if_pos rfl, if_pos rfl]; exact ap_n c
theorem gtb_2 (c : 0 < z) : gtB mo rd ft n h x y z w B 3 = trB mo rd ft n (n - (x + 1)) (upH h x 2) (y + 15 * mo x) (z - 1) w (gtB mo rd ft n h x y z w B 2) := by unfold gtB; rw [if_neg (by decide), if_neg (by decide), if_pos rfl, if_neg (by decide), if_pos rfl]; exact ap_y c
theorem gtb_2n (c : ¬ 0 < z) : gtB mo rd ft n h x y z w B 3 = gtB mo rd ft n h x y z w B 2 := by unfold gtB; rw [if_neg (by decide), if_neg (by decide), if_pos rfl, if_neg (by decide), if_pos rfl]; exact ap_n c
theorem gtb_3 (c : 0 < w) : gtB mo rd ft n h x y z w B 4 = trB mo rd ft n (n - (x + 1)) (upH h x 3) (y + 60 * mo x) z (w - 1) (gtB mo rd ft n h x y z w B 3) := by unfold gtB; rw [if_neg (by decide), if_neg (by decide), if_neg (by decide), if_neg (by decide), if_neg (by decide), if_pos rfl]; exact ap_y c
theorem gtb_3n (c : ¬ 0 < w) : gtB mo rd ft n h x y z w B 4 = gtB mo rd ft n h x y z w B 3 := by unfold gtB; rw [if_neg (by decide), if_neg (by decide), if_neg (by decide), if_neg (by decide), if_neg (by decide), if_pos rfl]; exact ap_n c
end GTB
section M87lc
variable {l : Launch} {s0 : State} {D : va_G} {tys : List (ClassId × FieldType)} {a0 : Array Value} {A : Nat → Nat} {dT : Nat → ClassId} {s : PS}
set_option maxRecDepth 4000 in
theorem k_go90 (G : GX l s0 D tys a0 dT) {U : AirD} {S : Int → Prop} {qn : Nat} {ft : Int → Prop} {B : MdO} (I : Bd s) (jRLx : RLx s) (jMDJ : MDJ U s) (jGTJ : GTJ U S qn ft s) (jMZJ : MZJ U (hitP U S qn) s) {x y z w u : Int} (p0 : 0 ≤ x ∧ x ≤ iI s 105) (p1 : iI s 105 - x ≤ ((0 : Nat) : Int)) (p2 : iI s 105 ≤ 8) (p3 : y = (qn : Int)) (p4 : 0 ≤ y ∧ y ≤ 23) (p5 : 0 ≤ z ∧ z ≤ 8) (p6 : 0 ≤ w ∧ w ≤ 8) (p7 : 0 ≤ u ∧ u ≤ 3000 * x) (p8 : GTP U (hitP U S qn) B x s) : CT l s0 D A dT 285 (rkR (52 + (0))) [.ref (A 179), .int (Int32.ofInt x), .int (Int32.ofInt y), .int (Int32.ofInt z), .int (Int32.ofInt w), .int (Int32.ofInt u)] s (fun o t => Bd t ∧ Fm [77, 75, 78, 79, 80, 81, 106] [202, 204, 205, 206, 207, 208, 209, 210, 211, 212, 213, 214, 215, 216, 217, 218, 219, 220, 221, 222, 223, 224, 225, 226, 227, 203, 161, 230, 401, 402] s t ∧ RLx t ∧ MZJ U (hitP U S qn) t ∧ o = .inl none ∧ (GTQ U S qn ft B x u z w s t)) := by
  refine ct_of G (by decide) (Nat.le_of_ble_eq_true rfl) (fun k X E hRt hXt q => ?_)
  show WS k 0 [(0, .ref (A 179)), (1, .int (Int32.ofInt x)), (2, .int (Int32.ofInt y)), (3, .int (Int32.ofInt z)), (4, .int (Int32.ofInt w)), (5, .int (Int32.ofInt u))] [] _ 0 0
  have F : Fm [77, 75, 78, 79, 80, 81, 106] [202, 204, 205, 206, 207, 208, 209, 210, 211, 212, 213, 214, 215, 216, 217, 218, 219, 220, 221, 222, 223, 224, 225, 226, 227, 203, 161, 230, 401, 402] s s := fm_rf _ _ s
  have b1 : (0 : Int) ≤ iI s 105 ∧ iI s 105 ≤ 12 := I.1 105
  have b2 : ((-2147483648) : Int) ≤ iI s 106 ∧ iI s 106 ≤ 2147483647 := I.1 106
  have b3 : (1 : Int) ≤ iI s 89 ∧ iI s 89 ≤ 8 := I.1 89
  have b4 : (0 : Int) ≤ iI s 90 ∧ iI s 90 ≤ 12 := I.1 90
  have L48 : ∀ (n : Nat) (t : PS) (c : Int), Bd t → Fm [77, 75, 78, 79, 80, 81, 106] [202, 204, 205, 206, 207, 208, 209, 210, 211, 212, 213, 214, 215, 216, 217, 218, 219, 220, 221, 222, 223, 224, 225, 226, 227, 203, 161, 230, 401, 402] s t → RLx t → ((∀ x : Nat, x < 12 → (x : Int) < c → iC t 402 x = iC s 401 x) ∧ SAM 401 s t) → ((0 ≤ c ∧ c ≤ 12) ∧ iI t 106 = u) → (12 - c : Int).toNat < n → (∀ (t' : PS) (c' : Int), Bd t' → Fm [77, 75, 78, 79, 80, 81, 106] [202, 204, 205, 206, 207, 208, 209, 210, 211, 212, 213, 214, 215, 216, 217, 218, 219, 220, 221, 222, 223, 224, 225, 226, 227, 203, 161, 230, 401, 402] s t' → RLx t' → ((∀ x : Nat, x < 12 → (x : Int) < c' → iC t' 402 x = iC s 401 x) ∧ SAM 401 s t') → (c' = 12 ∧ iI t' 106 = u) → WS k 75 [(0, .ref (A 179)), (6, .int (Int32.ofInt c'))] [] (Wd A dT t') 0 0) → WS k 48 [(0, .ref (A 179)), (6, .int (Int32.ofInt c))] [] (Wd A dT t) 0 0 := by
    intro n
    induction n with
    | zero =>
      intro t c I F jjRLx hq hi hm kx
      exact absurd hm (Nat.not_lt_zero _)
    | succ n ih =>
      intro t c I F jjRLx hq hi hm kx
      have b1001 : (0 : Int) ≤ iI t 105 ∧ iI t 105 ≤ 12 := I.1 105
      have b1002 : ((-2147483648) : Int) ≤ iI t 106 ∧ iI t 106 ≤ 2147483647 := I.1 106
      have b1003 : (1 : Int) ≤ iI t 89 ∧ iI t 89 ≤ 8 := I.1 89
      have b1004 : (0 : Int) ≤ iI t 90 ∧ iI t 90 ≤ 12 := I.1 90
      refine z_load X (x := c) (show cdA 285 48 = some (.iload 6, 2, 0, 0, 0) from rfl) (List.Mem.tail _ (List.Mem.head _)) ?_
      refine z_bipush X (show cdA 285 50 = some (.bipush 12, 2, 0, 0, 12) from rfl) ?_
      refine z_icmp_ge X (t := 75) (show cdA 285 52 = some (.if_icmp .ge 23, 3, 3, 0, 0) from rfl) (by decide) ⟨by first | exact oq_fa4e5087 hi.1.1 | omega, by first | exact oq_78843a64 hi.1.2 | omega⟩ (by decide) (fun g1005 => ?_) (fun g1005 => ?_)
      ·
        refine WS_lv (lv := [(0, .ref (A 179)), (6, .int (Int32.ofInt c))]) (List.forall_mem_cons.mpr ⟨(List.Mem.head _), (List.forall_mem_cons.mpr ⟨(List.Mem.tail _ (List.Mem.head _)), (fun q h => absurd h List.not_mem_nil)⟩)⟩) ?_
        exact kx _ c I F jjRLx hq (by first | exact ⟨oq_8e7d85da hi.1.2 g1005, hi.2⟩ | omega)
      ·
        refine z_aload_n X (x := A 179) (show cdA 285 55 = some (.aload_n 0, 1, 0, 0, 0) from rfl) (List.Mem.head _) ?_
        refine s_getR X 179 (show cdA 285 56 = some (.getfield 148, 3, 12, 70, 0) from rfl) (by decide) rfl rfl ?_
        refine z_load X (x := c) (show cdA 285 59 = some (.iload 6, 2, 0, 0, 0) from rfl) (List.Mem.tail _ (List.Mem.head _)) ?_
        refine z_aload_n X (x := A 179) (show cdA 285 61 = some (.aload_n 0, 1, 0, 0, 0) from rfl) (List.Mem.head _) ?_
        refine s_getR X 179 (show cdA 285 62 = some (.getfield 145, 3, 12, 69, 0) from rfl) (by decide) rfl rfl ?_
        refine z_load X (x := c) (show cdA 285 65 = some (.iload 6, 2, 0, 0, 0) from rfl) (List.Mem.tail _ (List.Mem.head _)) ?_
        refine z_ald X 456 (show cdA 285 67 = some (.iaload, 1, 0, 0, 0) from rfl) (by decide) rfl (by first | exact hi.1.1 | omega) (show c < 12 by first | exact g1005 | omega) (by decide) ?_
        have b1006 : (0 : Int) ≤ iC t 401 (c).toNat ∧ iC t 401 (c).toNat ≤ 3 := I.2 401 _ (show (c).toNat < 12 by first | exact oq_d855cead g1005 | omega)
        refine z_ast X 457 (show cdA 285 68 = some (.iastore, 1, 0, 0, 0) from rfl) (by decide) rfl (by first | exact hi.1.1 | omega) (show c < 12 by first | exact g1005 | omega) (by decide) ?_
        obtain ⟨s1007, hs1007⟩ : ∃ x0, x0 = uC t 402 (c).toNat (Int32.ofInt (iC t 401 (c).toNat)) := ⟨_, rfl⟩
        rw [← hs1007]
        have Is1007 : Bd s1007 := by rw [hs1007]; exact bd_C I (show (0 : Int) ≤ (iC t 401 (c).toNat) ∧ (iC t 401 (c).toNat) ≤ 3 by first | exact ⟨b1006.1, b1006.2⟩ | omega) (rng_to _)
        have Fs1007 := fm_C (i := (c).toNat) (x := Int32.ofInt (iC t 401 (c).toNat)) F (show 402 ∈ _ by decide)
        rw [← hs1007] at Fs1007
        have ws1007_105 : iI s1007 105 = iI t 105 := by rw [hs1007]; rfl
        have ws1007_106 : iI s1007 106 = iI t 106 := by rw [hs1007]; rfl
        have ws1007_89 : iI s1007 89 = iI t 89 := by rw [hs1007]; rfl
        have ws1007_90 : iI s1007 90 = iI t 90 := by rw [hs1007]; rfl
        have fs1007 : Fm [] [402] t s1007 := by rw [hs1007]; exact fm_C (fm_rf _ _ _) (show 402 ∈ _ by decide)
        have JRLx_s1007 : RLx s1007 := RLx_fm fs1007 (by decide) jjRLx
        refine z_inc X (x := c) (lv' := [(6, .int (Int32.ofInt (c + 1))), (0, .ref (A 179))]) (show cdA 285 69 = some (.iinc 6 1, 3, 0, 0, 0) from rfl) (by decide) (List.Mem.tail _ (List.Mem.head _)) (fun _ h => h) ?_
        refine z_goto X (t := 48) (show cdA 285 72 = some (.goto (-24), 3, 0, 0, 0) from rfl) (by decide) ?_
        refine WS_lv (lv := [(0, .ref (A 179)), (6, .int (Int32.ofInt (c + 1)))]) (List.forall_mem_cons.mpr ⟨(List.Mem.tail _ (List.Mem.head _)), (List.forall_mem_cons.mpr ⟨(List.Mem.head _), (fun q h => absurd h List.not_mem_nil)⟩)⟩) ?_
        exact ih _ (c + 1) Is1007 Fs1007 JRLx_s1007 ⟨fun x hx h => by by_cases e : x = (c : Int).toNat; (· rw [e, hs1007, iC_u ⟨by omega, by omega⟩]; exact hq.2 _); (· rw [hs1007, iC_n e]; exact hq.1 x hx (by omega)), fun i => by rw [hs1007, iC_a (by decide)]; exact hq.2 i⟩ (by first | exact ⟨And.intro (oq_54f49eb5 hi.1.1) (oq_6a25a379 g1005), oq_1aa5be9e ws1007_106 hi.2⟩ | omega) (by first | exact qk_me hm (by decide) (oq_ab2484cf g1005) | omega) kx
  refine z_aload_n X (x := A 179) (show cdA 285 0 = some (.aload_n 0, 1, 0, 0, 0) from rfl) (List.Mem.head _) ?_
  refine z_getI X 179 (show cdA 285 1 = some (.getfield 434, 3, 12, 75, 0) from rfl) (by decide) rfl rfl ?_
  have b5 : ((-2147483648) : Int) ≤ iI s 106 ∧ iI s 106 ≤ 2147483647 := I.1 106
  refine z_const X (show cdA 285 4 = some (.iconst (-1), 1, 0, 0, 0) from rfl) ?_
  refine z_icmp_eq X (t := 18) (show cdA 285 5 = some (.if_icmp .eq 13, 3, 0, 0, 0) from rfl) (by decide) (rng_to _) (by decide) (fun g6 => ?_) (fun g6 => ?_)
  ·
    have hl : lsB B u := (bso9_l p8.1).mpr (by omega)
    have hg1 := jGTJ.1.1.1
    have hg2 := jGTJ.2.2.1
    have hg3 := jGTJ.2.2.2.1
    have hyq : (y : Int).toNat = qn := by omega
    refine z_load_n X (x := x) (show cdA 285 18 = some (.iload_n 1, 1, 0, 0, 0) from rfl) (List.Mem.tail _ (List.Mem.head _)) ?_
    refine z_aload_n X (x := A 179) (show cdA 285 19 = some (.aload_n 0, 1, 0, 0, 0) from rfl) (List.Mem.head _) ?_
    refine z_getI X 179 (show cdA 285 20 = some (.getfield 431, 3, 12, 74, 0) from rfl) (by decide) rfl rfl ?_
    have b7 : (0 : Int) ≤ iI s 105 ∧ iI s 105 ≤ 12 := I.1 105
    refine z_icmp_ne X (t := 76) (show cdA 285 23 = some (.if_icmp .ne 53, 3, 1, 0, 0) from rfl) (by decide) ⟨by first | exact oq_fa4e5087 p0.1 | omega, by first | exact oq_39d2cc6e p0.2 b7.2 | omega⟩ (rng_to _) (fun g8 => ?_) (fun g8 => ?_)
    ·
      exfalso
      omega
    ·
      have hHQ := gt_hmq jMDJ jGTJ p8 (by omega)
      have hWK := gt_wok (c := ((cHt (hitP U S qn) (uN U)) : Int)) jMDJ hHQ
      refine z_aload_n X (x := A 179) (show cdA 285 26 = some (.aload_n 0, 1, 0, 0, 0) from rfl) (List.Mem.head _) ?_
      refine z_load_n X (x := y) (show cdA 285 27 = some (.iload_n 2, 1, 0, 0, 0) from rfl) (List.Mem.tail _ (List.Mem.tail _ (List.Mem.head _))) ?_
      refine z_callV X 179 (rm := rmN 284) (As := [.int (Int32.ofInt y)]) (st := []) (show cdA 285 28 = some (.invokevirtual 437, 3, 284, 0, 0) from rfl) rfl (by decide) rfl (by rw [E.1, E.2.1, E.2.2.1]; exact k_asMended9 G I jRLx jMDJ (by first | exact ⟨p4.1, p4.2⟩ | omega) (hHQ)) ⟨by rw [E.2.2.2]; exact (show 10 + 1 ≤ (12 + (52 + (0))) from oq_a4cf3503), by rw [E.2.2.2]; exact (show 8 + (5 + 11) + 189 ≤ (500 + 45 * (52 + (0))) from oq_4290aa94), by rw [E.2.2.2]; exact Nat.le_refl 0, by rw [E.2.2.2]; exact Nat.le_refl 0⟩ (Nat.le_of_ble_eq_true rfl) (fun vv s9 hq => ?_) (fun ee s9 hq => ?_)
      rotate_left
      · obtain ⟨Is9, Fs9, JRLx_s9, hv, hps9⟩ := hq; cases hv
      obtain ⟨Is9, Fs9, JRLx_s9, hv, hps9⟩ := hq
      cases hv
      have Gs9 := fm_ts F Fs9 (by decide) (by decide)
      have JRLx_s9 : RLx s9 := RLx_fm Fs9 (by decide) jRLx
      have JMDJ_s9 : MDJ U s9 := MDJ_fm Fs9 (by decide) jMDJ
      have JGTJ_s9 : GTJ U S qn ft s9 := GTJ_fm Fs9 (by decide) jGTJ
      have JMZJ_s9 : MZJ U (hitP U S qn) s9 := MZJ_fm Fs9 (by decide) jMZJ
      have ws9_105 : iI s9 105 = iI s 105 := fm_i Fs9 (by decide)
      have ws9_106 : iI s9 106 = iI s 106 := fm_i Fs9 (by decide)
      have ws9_89 : iI s9 89 = iI s 89 := fm_i Fs9 (by decide)
      have ws9_90 : iI s9 90 = iI s 90 := fm_i Fs9 (by decide)
      show WS k 31 [(0, .ref (A 179)), (1, .int (Int32.ofInt x)), (2, .int (Int32.ofInt y)), (3, .int (Int32.ofInt z)), (4, .int (Int32.ofInt w)), (5, .int (Int32.ofInt u))] [] (Wd A dT s9) 0 0
      have hst1 : iI s9 90 = iI s 90 := fm_i Fs9 (by decide)
      have hAE := am_e (by have zz := hps9; rw [hyq, hg1] at zz; exact zz) ⟨hst1.trans jMDJ.1.1, jMDJ.1.2⟩ hWK
      have hML : MDL (uC9 U (wyC U (PcH (hitP U S qn) ((cHt (hitP U S qn) (uN U)) : Int)) (MD9 s) (RW9 s))) s9 := gt_mdl jMDJ hst1 JMDJ_s9.2.2.2.2.2.2 hWK
      refine z_aload_n X (x := A 179) (show cdA 285 31 = some (.aload_n 0, 1, 0, 0, 0) from rfl) (List.Mem.head _) ?_
      refine z_callV X 179 (rm := rmN 283) (As := []) (st := []) (show cdA 285 32 = some (.invokevirtual 440, 3, 283, 0, 0) from rfl) rfl (by decide) rfl (by rw [E.1, E.2.1, E.2.2.1]; exact k_noneFull9 G Is9 hAE.1 hAE.2.1 hML hAE.2.2.1 hAE.2.2.2 (by omega)) ⟨by rw [E.2.2.2]; exact (show 37 + 1 ≤ (12 + (52 + (0))) from oq_d960365c), by rw [E.2.2.2]; exact (show 8 + (2 + 11) + 1578 ≤ (500 + 45 * (52 + (0))) from oq_e5119b40), by rw [E.2.2.2]; exact Nat.le_refl 0, by rw [E.2.2.2]; exact Nat.le_refl 0⟩ (Nat.le_of_ble_eq_true rfl) (fun vv s11 hq => ?_) (fun ee s11 hq => ?_)
      rotate_left
      · obtain ⟨Is11, Fs11, e12, hv, hrs11, hps11⟩ := hq; cases hv
      obtain ⟨Is11, Fs11, e12, hv, hrs11, hps11⟩ := hq
      cases hv
      have Gs11 := fm_ts Gs9 Fs11 (by decide) (by decide)
      have JRLx_s11 : RLx s11 := RLx_fm Fs11 (by decide) JRLx_s9
      have JMDJ_s11 : MDJ U s11 := MDJ_fm Fs11 (by decide) JMDJ_s9
      have JGTJ_s11 : GTJ U S qn ft s11 := GTJ_fm Fs11 (by decide) JGTJ_s9
      have JMZJ_s11 : MZJ U (hitP U S qn) s11 := MZJ_fm Fs11 (by decide) JMZJ_s9
      have JNW_s11 : NW s11 := NW_fm Fs11 (by decide) hAE.1
      have JNWL_s11 : NWL s11 := NWL_fm Fs11 (by decide) hAE.2.1
      have JNWE_s11 : NWE (uC9 U (wyC U (PcH (hitP U S qn) ((cHt (hitP U S qn) (uN U)) : Int)) (MD9 s) (RW9 s))) s11 := NWE_fm Fs11 (by decide) hAE.2.2.1
      have JNMQ_s11 : NMQ (moC U (PcH (hitP U S qn) ((cHt (hitP U S qn) (uN U)) : Int)) (MD9 s) qn) (uN U : Int) s11 := NMQ_fm Fs11 (by decide) hAE.2.2.2
      have JMDL_s11 : MDL (uC9 U (wyC U (PcH (hitP U S qn) ((cHt (hitP U S qn) (uN U)) : Int)) (MD9 s) (RW9 s))) s11 := MDL_fm Fs11 (by decide) hML
      have ws11_105 : iI s11 105 = iI s9 105 := fm_i Fs11 (by decide)
      have ws11_106 : iI s11 106 = iI s9 106 := fm_i Fs11 (by decide)
      have ws11_89 : iI s11 89 = iI s9 89 := fm_i Fs11 (by decide)
      have ws11_90 : iI s11 90 = iI s9 90 := fm_i Fs11 (by decide)
      show WS k 35 [(0, .ref (A 179)), (1, .int (Int32.ofInt x)), (2, .int (Int32.ofInt y)), (3, .int (Int32.ofInt z)), (4, .int (Int32.ofInt w)), (5, .int (Int32.ofInt u))] [.int (Int32.ofInt e12)] (Wd A dT s11) 0 0
      have hLF := lf_eq (f := pfM s) (lim := fun j => iC s 229 j) (by first | (clear hps11; omega) | omega) (gt_md jGTJ) (gt_rw jGTJ p8 (by first | (clear hps11; omega) | omega)) (fun b hb => (hg3.2.2 b hb).1)
      have hFF := hps11
      rw [show pfM s9 = pfM s from funext (fun j => fm_c Gs9 (by decide)), show (fun j => iC s9 229 j) = (fun j => iC s 229 j) from funext (fun j => fm_c Gs9 (by decide))] at hFF
      have hFT : ft (msI (mdM s) 1 (cHt (hitP U S qn) (uN U))) = fitK9 U S qn (pfM s) (fun j => iC s 229 j) (msI (mdM s) 1 (cHt (hitP U S qn) (uN U))) := congrFun jGTJ.2.2.2.2 _
      refine z_if_ne X (t := 39) (show cdA 285 35 = some (.ifCond .ne 4, 3, 1, 0, 0) from rfl) (by decide) hrs11 (fun g13 => ?_) (fun g13 => ?_)
      ·
        have hf : ft (msI (mdM s) 1 (cHt (hitP U S qn) (uN U))) := by rw [hFT]; exact hFF.elim (fun zz => hLF.mp zz.2) (fun zz => absurd zz.1 (by first | (clear g13 hps11; omega) | (clear hps11; omega) | omega))
        refine z_aload_n X (x := A 179) (show cdA 285 39 = some (.aload_n 0, 1, 0, 0, 0) from rfl) (List.Mem.head _) ?_
        refine z_load X (x := u) (show cdA 285 40 = some (.iload 5, 2, 0, 0, 0) from rfl) (List.Mem.tail _ (List.Mem.tail _ (List.Mem.tail _ (List.Mem.tail _ (List.Mem.tail _ (List.Mem.head _)))))) ?_
        refine s_putI X 179 (show cdA 285 42 = some (.putfield 434, 3, 12, 75, 0) from rfl) (by decide) rfl rfl (by decide) rfl rfl rfl ?_
        obtain ⟨s14, hs14⟩ : ∃ x0, x0 = uI s11 106 (Int32.ofInt u) := ⟨_, rfl⟩
        rw [← hs14]
        have Is14 : Bd s14 := by rw [hs14]; exact bd_I Is11 (show ((-2147483648) : Int) ≤ u ∧ u ≤ 2147483647 by first | exact ⟨oq_fa4e5087 p7.1, oq_fd118a2d p7.2 g8 b7.2⟩ | omega) ⟨by first | exact oq_fa4e5087 p7.1 | omega, by first | exact oq_fd118a2d p7.2 g8 b7.2 | omega⟩
        have Fs14 := fm_I (x := Int32.ofInt u) Gs11 (show 106 ∈ _ by decide)
        rw [← hs14] at Fs14
        have vs14 : iI s14 106 = u := by rw [hs14]; exact iI_u ⟨by first | exact oq_fa4e5087 p7.1 | omega, by first | exact oq_fd118a2d p7.2 g8 b7.2 | omega⟩
        have ws14_105 : iI s14 105 = iI s11 105 := by rw [hs14]; rfl
        have ws14_89 : iI s14 89 = iI s11 89 := by rw [hs14]; rfl
        have ws14_90 : iI s14 90 = iI s11 90 := by rw [hs14]; rfl
        have fs14 : Fm [106] [] s11 s14 := by rw [hs14]; exact fm_I (fm_rf _ _ _) (show 106 ∈ _ by decide)
        have JRLx_s14 : RLx s14 := RLx_fm fs14 (by decide) JRLx_s11
        have JMDJ_s14 : MDJ U s14 := MDJ_fm fs14 (by decide) JMDJ_s11
        have JGTJ_s14 : GTJ U S qn ft s14 := GTJ_fm fs14 (by decide) JGTJ_s11
        have JMZJ_s14 : MZJ U (hitP U S qn) s14 := MZJ_fm fs14 (by decide) JMZJ_s11
        refine z_const X (show cdA 285 45 = some (.iconst 0, 1, 0, 0, 0) from rfl) ?_
        refine z_store X (lv' := [(6, .int (Int32.ofInt 0)), (0, .ref (A 179)), (1, .int (Int32.ofInt x)), (2, .int (Int32.ofInt y)), (3, .int (Int32.ofInt z)), (4, .int (Int32.ofInt w)), (5, .int (Int32.ofInt u))]) (show cdA 285 46 = some (.istore 6, 2, 0, 0, 0) from rfl) (by decide) (fun _ h => h) ?_
        refine WS_lv (lv := [(0, .ref (A 179)), (6, .int (Int32.ofInt 0))]) (List.forall_mem_cons.mpr ⟨(List.Mem.tail _ (List.Mem.head _)), (List.forall_mem_cons.mpr ⟨(List.Mem.head _), (fun q h => absurd h List.not_mem_nil)⟩)⟩) ?_
        refine L48 ((12 - 0 : Int).toNat + 1) s14 0 Is14 Fs14 JRLx_s14 ⟨fun x _ h => absurd h (by first | (clear g13 hps11; omega) | (clear hps11; omega) | omega), fun i => (show iC s14 401 i = iC s11 401 i by rw [hs14]; rfl).trans ((fm_c Fs11 (by decide)).trans (fm_c Fs9 (by decide)))⟩ (by first | exact ⟨And.intro (by decide) (by decide), vs14⟩ | omega) (Nat.lt_succ_self _) ?_
        intro s15 x16 Is15 Fs15 JRLx_s15 Qs15 hs15
        have b17 : (0 : Int) ≤ iI s15 105 ∧ iI s15 105 ≤ 12 := Is15.1 105
        have b18 : ((-2147483648) : Int) ≤ iI s15 106 ∧ iI s15 106 ≤ 2147483647 := Is15.1 106
        have b19 : (1 : Int) ≤ iI s15 89 ∧ iI s15 89 ≤ 8 := Is15.1 89
        have b20 : (0 : Int) ≤ iI s15 90 ∧ iI s15 90 ≤ 12 := Is15.1 90
        have hMZ : MZJ U (hitP U S qn) s15 := fun b hb p => (Qs15.2 b).trans (jMZJ b hb p)
        exact w_vret X.1 q hRt (ax_d X (show cdA 285 75 = some (.return_, 1, 0, 0, 0) from rfl)) (Nat.zero_le _) (Nat.zero_le _) ⟨_, rfl, Is15, Fs15, JRLx_s15, hMZ, rfl, (gtq_1 jGTJ jMZJ p8 (by first | (clear g13 hps11; omega) | (clear hps11; omega) | omega) hf hl (by first | (clear g13 hps11; omega) | (clear hps11; omega) | omega) (by first | (clear g13 hps11; omega) | (clear hps11; omega) | omega) (fun x hx => Qs15.1 x hx (by first | (clear g13 hps11; omega) | (clear hps11; omega) | omega)) jMDJ.1.2 (fun i => by show iC s15 401 (iC s15 400 i).toNat = _; rw [Qs15.2, show iC s15 400 i = iC s 400 i from fm_c Fs15 (by decide)]))⟩
      ·
        exact w_vret X.1 q hRt (ax_d X (show cdA 285 38 = some (.return_, 1, 0, 0, 0) from rfl)) (Nat.zero_le _) (Nat.zero_le _) ⟨_, rfl, Is11, Gs11, JRLx_s11, JMZJ_s11, rfl, (gtq_0 jGTJ p8 (by first | (clear hps11; omega) | omega) (by rw [hFT]; exact hFF.elim (fun zz => absurd zz.1 (by first | (clear hps11; omega) | omega)) (fun zz w => zz.2 (hLF.mpr w))) (by first | (clear hps11; omega) | omega) (sam_ts (sam_fm Fs9 (by decide)) (sam_fm Fs11 (by decide))) (fun i => (mdm_fm Fs11 (by decide) i).trans (mdm_fm Fs9 (by decide) i)))⟩
  ·
    refine z_load X (x := u) (show cdA 285 8 = some (.iload 5, 2, 0, 0, 0) from rfl) (List.Mem.tail _ (List.Mem.tail _ (List.Mem.tail _ (List.Mem.tail _ (List.Mem.tail _ (List.Mem.head _)))))) ?_
    refine z_aload_n X (x := A 179) (show cdA 285 10 = some (.aload_n 0, 1, 0, 0, 0) from rfl) (List.Mem.head _) ?_
    refine z_getI X 179 (show cdA 285 11 = some (.getfield 434, 3, 12, 75, 0) from rfl) (by decide) rfl rfl ?_
    have b21 : ((-2147483648) : Int) ≤ iI s 106 ∧ iI s 106 ≤ 2147483647 := I.1 106
    refine z_icmp_lt X (t := 18) (show cdA 285 14 = some (.if_icmp .lt 4, 3, 2, 0, 0) from rfl) (by decide) ⟨by first | exact oq_fa4e5087 p7.1 | omega, by first | exact oq_1b20a017 p7.2 p0.2 b1.2 | omega⟩ (rng_to _) (fun g22 => ?_) (fun g22 => ?_)
    ·
      have hl : lsB B u := (bso9_l p8.1).mpr (by first | (clear g6; omega) | omega)
      have hg1 := jGTJ.1.1.1
      have hg2 := jGTJ.2.2.1
      have hg3 := jGTJ.2.2.2.1
      have hyq : (y : Int).toNat = qn := by first | (clear g6; omega) | omega
      refine z_load_n X (x := x) (show cdA 285 18 = some (.iload_n 1, 1, 0, 0, 0) from rfl) (List.Mem.tail _ (List.Mem.head _)) ?_
      refine z_aload_n X (x := A 179) (show cdA 285 19 = some (.aload_n 0, 1, 0, 0, 0) from rfl) (List.Mem.head _) ?_
      refine z_getI X 179 (show cdA 285 20 = some (.getfield 431, 3, 12, 74, 0) from rfl) (by decide) rfl rfl ?_
      have b23 : (0 : Int) ≤ iI s 105 ∧ iI s 105 ≤ 12 := I.1 105
      refine z_icmp_ne X (t := 76) (show cdA 285 23 = some (.if_icmp .ne 53, 3, 1, 0, 0) from rfl) (by decide) ⟨by first | exact oq_fa4e5087 p0.1 | omega, by first | exact oq_39d2cc6e p0.2 b23.2 | omega⟩ (rng_to _) (fun g24 => ?_) (fun g24 => ?_)
      ·
        exfalso
        omega
      ·
        have hHQ := gt_hmq jMDJ jGTJ p8 (by first | (clear g6; omega) | omega)
        have hWK := gt_wok (c := ((cHt (hitP U S qn) (uN U)) : Int)) jMDJ hHQ
        refine z_aload_n X (x := A 179) (show cdA 285 26 = some (.aload_n 0, 1, 0, 0, 0) from rfl) (List.Mem.head _) ?_
        refine z_load_n X (x := y) (show cdA 285 27 = some (.iload_n 2, 1, 0, 0, 0) from rfl) (List.Mem.tail _ (List.Mem.tail _ (List.Mem.head _))) ?_
        refine z_callV X 179 (rm := rmN 284) (As := [.int (Int32.ofInt y)]) (st := []) (show cdA 285 28 = some (.invokevirtual 437, 3, 284, 0, 0) from rfl) rfl (by decide) rfl (by rw [E.1, E.2.1, E.2.2.1]; exact k_asMended9 G I jRLx jMDJ (by first | exact ⟨p4.1, p4.2⟩ | omega) (hHQ)) ⟨by rw [E.2.2.2]; exact (show 10 + 1 ≤ (12 + (52 + (0))) from oq_a4cf3503), by rw [E.2.2.2]; exact (show 8 + (5 + 11) + 189 ≤ (500 + 45 * (52 + (0))) from oq_4290aa94), by rw [E.2.2.2]; exact Nat.le_refl 0, by rw [E.2.2.2]; exact Nat.le_refl 0⟩ (Nat.le_of_ble_eq_true rfl) (fun vv s25 hq => ?_) (fun ee s25 hq => ?_)
        rotate_left
        · obtain ⟨Is25, Fs25, JRLx_s25, hv, hps25⟩ := hq; cases hv
        obtain ⟨Is25, Fs25, JRLx_s25, hv, hps25⟩ := hq
        cases hv
        have Gs25 := fm_ts F Fs25 (by decide) (by decide)
        have JRLx_s25 : RLx s25 := RLx_fm Fs25 (by decide) jRLx
        have JMDJ_s25 : MDJ U s25 := MDJ_fm Fs25 (by decide) jMDJ
        have JGTJ_s25 : GTJ U S qn ft s25 := GTJ_fm Fs25 (by decide) jGTJ
        have JMZJ_s25 : MZJ U (hitP U S qn) s25 := MZJ_fm Fs25 (by decide) jMZJ
        have ws25_105 : iI s25 105 = iI s 105 := fm_i Fs25 (by decide)
        have ws25_106 : iI s25 106 = iI s 106 := fm_i Fs25 (by decide)
        have ws25_89 : iI s25 89 = iI s 89 := fm_i Fs25 (by decide)
        have ws25_90 : iI s25 90 = iI s 90 := fm_i Fs25 (by decide)
        show WS k 31 [(0, .ref (A 179)), (1, .int (Int32.ofInt x)), (2, .int (Int32.ofInt y)), (3, .int (Int32.ofInt z)), (4, .int (Int32.ofInt w)), (5, .int (Int32.ofInt u))] [] (Wd A dT s25) 0 0
        have hst1 : iI s25 90 = iI s 90 := fm_i Fs25 (by decide)
        have hAE := am_e (by have zz := hps25; rw [hyq, hg1] at zz; exact zz) ⟨hst1.trans jMDJ.1.1, jMDJ.1.2⟩ hWK
        have hML : MDL (uC9 U (wyC U (PcH (hitP U S qn) ((cHt (hitP U S qn) (uN U)) : Int)) (MD9 s) (RW9 s))) s25 := gt_mdl jMDJ hst1 JMDJ_s25.2.2.2.2.2.2 hWK
        refine z_aload_n X (x := A 179) (show cdA 285 31 = some (.aload_n 0, 1, 0, 0, 0) from rfl) (List.Mem.head _) ?_
        refine z_callV X 179 (rm := rmN 283) (As := []) (st := []) (show cdA 285 32 = some (.invokevirtual 440, 3, 283, 0, 0) from rfl) rfl (by decide) rfl (by rw [E.1, E.2.1, E.2.2.1]; exact k_noneFull9 G Is25 hAE.1 hAE.2.1 hML hAE.2.2.1 hAE.2.2.2 (by first | (clear g6; omega) | omega)) ⟨by rw [E.2.2.2]; exact (show 37 + 1 ≤ (12 + (52 + (0))) from oq_d960365c), by rw [E.2.2.2]; exact (show 8 + (2 + 11) + 1578 ≤ (500 + 45 * (52 + (0))) from oq_e5119b40), by rw [E.2.2.2]; exact Nat.le_refl 0, by rw [E.2.2.2]; exact Nat.le_refl 0⟩ (Nat.le_of_ble_eq_true rfl) (fun vv s27 hq => ?_) (fun ee s27 hq => ?_)
        rotate_left
        · obtain ⟨Is27, Fs27, e28, hv, hrs27, hps27⟩ := hq; cases hv
        obtain ⟨Is27, Fs27, e28, hv, hrs27, hps27⟩ := hq
        cases hv
        have Gs27 := fm_ts Gs25 Fs27 (by decide) (by decide)
        have JRLx_s27 : RLx s27 := RLx_fm Fs27 (by decide) JRLx_s25
        have JMDJ_s27 : MDJ U s27 := MDJ_fm Fs27 (by decide) JMDJ_s25
        have JGTJ_s27 : GTJ U S qn ft s27 := GTJ_fm Fs27 (by decide) JGTJ_s25
        have JMZJ_s27 : MZJ U (hitP U S qn) s27 := MZJ_fm Fs27 (by decide) JMZJ_s25
        have JNW_s27 : NW s27 := NW_fm Fs27 (by decide) hAE.1
        have JNWL_s27 : NWL s27 := NWL_fm Fs27 (by decide) hAE.2.1
        have JNWE_s27 : NWE (uC9 U (wyC U (PcH (hitP U S qn) ((cHt (hitP U S qn) (uN U)) : Int)) (MD9 s) (RW9 s))) s27 := NWE_fm Fs27 (by decide) hAE.2.2.1
        have JNMQ_s27 : NMQ (moC U (PcH (hitP U S qn) ((cHt (hitP U S qn) (uN U)) : Int)) (MD9 s) qn) (uN U : Int) s27 := NMQ_fm Fs27 (by decide) hAE.2.2.2
        have JMDL_s27 : MDL (uC9 U (wyC U (PcH (hitP U S qn) ((cHt (hitP U S qn) (uN U)) : Int)) (MD9 s) (RW9 s))) s27 := MDL_fm Fs27 (by decide) hML
        have ws27_105 : iI s27 105 = iI s25 105 := fm_i Fs27 (by decide)
        have ws27_106 : iI s27 106 = iI s25 106 := fm_i Fs27 (by decide)
        have ws27_89 : iI s27 89 = iI s25 89 := fm_i Fs27 (by decide)
        have ws27_90 : iI s27 90 = iI s25 90 := fm_i Fs27 (by decide)
        show WS k 35 [(0, .ref (A 179)), (1, .int (Int32.ofInt x)), (2, .int (Int32.ofInt y)), (3, .int (Int32.ofInt z)), (4, .int (Int32.ofInt w)), (5, .int (Int32.ofInt u))] [.int (Int32.ofInt e28)] (Wd A dT s27) 0 0
        have hLF := lf_eq (f := pfM s) (lim := fun j => iC s 229 j) (by first | (clear hps27 g6; omega) | (clear g6; omega) | omega) (gt_md jGTJ) (gt_rw jGTJ p8 (by first | (clear hps27 g6; omega) | (clear g6; omega) | omega)) (fun b hb => (hg3.2.2 b hb).1)
        have hFF := hps27
        rw [show pfM s25 = pfM s from funext (fun j => fm_c Gs25 (by decide)), show (fun j => iC s25 229 j) = (fun j => iC s 229 j) from funext (fun j => fm_c Gs25 (by decide))] at hFF
        have hFT : ft (msI (mdM s) 1 (cHt (hitP U S qn) (uN U))) = fitK9 U S qn (pfM s) (fun j => iC s 229 j) (msI (mdM s) 1 (cHt (hitP U S qn) (uN U))) := congrFun jGTJ.2.2.2.2 _
        refine z_if_ne X (t := 39) (show cdA 285 35 = some (.ifCond .ne 4, 3, 1, 0, 0) from rfl) (by decide) hrs27 (fun g29 => ?_) (fun g29 => ?_)
        ·
          have hf : ft (msI (mdM s) 1 (cHt (hitP U S qn) (uN U))) := by rw [hFT]; exact hFF.elim (fun zz => hLF.mp zz.2) (fun zz => absurd zz.1 (by first | (clear g29 hps27 g6; omega) | (clear hps27 g6; omega) | omega))
          refine z_aload_n X (x := A 179) (show cdA 285 39 = some (.aload_n 0, 1, 0, 0, 0) from rfl) (List.Mem.head _) ?_
          refine z_load X (x := u) (show cdA 285 40 = some (.iload 5, 2, 0, 0, 0) from rfl) (List.Mem.tail _ (List.Mem.tail _ (List.Mem.tail _ (List.Mem.tail _ (List.Mem.tail _ (List.Mem.head _)))))) ?_
          refine s_putI X 179 (show cdA 285 42 = some (.putfield 434, 3, 12, 75, 0) from rfl) (by decide) rfl rfl (by decide) rfl rfl rfl ?_
          obtain ⟨s30, hs30⟩ : ∃ x0, x0 = uI s27 106 (Int32.ofInt u) := ⟨_, rfl⟩
          rw [← hs30]
          have Is30 : Bd s30 := by rw [hs30]; exact bd_I Is27 (show ((-2147483648) : Int) ≤ u ∧ u ≤ 2147483647 by first | exact ⟨oq_fa4e5087 p7.1, oq_ef392b12 g22 b21.2⟩ | omega) ⟨by first | exact oq_fa4e5087 p7.1 | omega, by first | exact oq_ef392b12 g22 b21.2 | omega⟩
          have Fs30 := fm_I (x := Int32.ofInt u) Gs27 (show 106 ∈ _ by decide)
          rw [← hs30] at Fs30
          have vs30 : iI s30 106 = u := by rw [hs30]; exact iI_u ⟨by first | exact oq_fa4e5087 p7.1 | omega, by first | exact oq_ef392b12 g22 b21.2 | omega⟩
          have ws30_105 : iI s30 105 = iI s27 105 := by rw [hs30]; rfl
          have ws30_89 : iI s30 89 = iI s27 89 := by rw [hs30]; rfl
          have ws30_90 : iI s30 90 = iI s27 90 := by rw [hs30]; rfl
          have fs30 : Fm [106] [] s27 s30 := by rw [hs30]; exact fm_I (fm_rf _ _ _) (show 106 ∈ _ by decide)
          have JRLx_s30 : RLx s30 := RLx_fm fs30 (by decide) JRLx_s27
          have JMDJ_s30 : MDJ U s30 := MDJ_fm fs30 (by decide) JMDJ_s27
          have JGTJ_s30 : GTJ U S qn ft s30 := GTJ_fm fs30 (by decide) JGTJ_s27
          have JMZJ_s30 : MZJ U (hitP U S qn) s30 := MZJ_fm fs30 (by decide) JMZJ_s27
          refine z_const X (show cdA 285 45 = some (.iconst 0, 1, 0, 0, 0) from rfl) ?_
          refine z_store X (lv' := [(6, .int (Int32.ofInt 0)), (0, .ref (A 179)), (1, .int (Int32.ofInt x)), (2, .int (Int32.ofInt y)), (3, .int (Int32.ofInt z)), (4, .int (Int32.ofInt w)), (5, .int (Int32.ofInt u))]) (show cdA 285 46 = some (.istore 6, 2, 0, 0, 0) from rfl) (by decide) (fun _ h => h) ?_
          refine WS_lv (lv := [(0, .ref (A 179)), (6, .int (Int32.ofInt 0))]) (List.forall_mem_cons.mpr ⟨(List.Mem.tail _ (List.Mem.head _)), (List.forall_mem_cons.mpr ⟨(List.Mem.head _), (fun q h => absurd h List.not_mem_nil)⟩)⟩) ?_
          refine L48 ((12 - 0 : Int).toNat + 1) s30 0 Is30 Fs30 JRLx_s30 ⟨fun x _ h => absurd h (by first | (clear g29 hps27 g6; omega) | (clear hps27 g6; omega) | omega), fun i => (show iC s30 401 i = iC s27 401 i by rw [hs30]; rfl).trans ((fm_c Fs27 (by decide)).trans (fm_c Fs25 (by decide)))⟩ (by first | exact ⟨And.intro (by decide) (by decide), vs30⟩ | omega) (Nat.lt_succ_self _) ?_
          intro s31 x32 Is31 Fs31 JRLx_s31 Qs31 hs31
          have b33 : (0 : Int) ≤ iI s31 105 ∧ iI s31 105 ≤ 12 := Is31.1 105
          have b34 : ((-2147483648) : Int) ≤ iI s31 106 ∧ iI s31 106 ≤ 2147483647 := Is31.1 106
          have b35 : (1 : Int) ≤ iI s31 89 ∧ iI s31 89 ≤ 8 := Is31.1 89
          have b36 : (0 : Int) ≤ iI s31 90 ∧ iI s31 90 ≤ 12 := Is31.1 90
          have hMZ : MZJ U (hitP U S qn) s31 := fun b hb p => (Qs31.2 b).trans (jMZJ b hb p)
          exact w_vret X.1 q hRt (ax_d X (show cdA 285 75 = some (.return_, 1, 0, 0, 0) from rfl)) (Nat.zero_le _) (Nat.zero_le _) ⟨_, rfl, Is31, Fs31, JRLx_s31, hMZ, rfl, (gtq_1 jGTJ jMZJ p8 (by first | (clear g29 hps27 g6; omega) | (clear hps27 g6; omega) | omega) hf hl (by first | (clear g29 hps27 g6; omega) | (clear hps27 g6; omega) | omega) (by first | (clear g29 hps27 g6; omega) | (clear hps27 g6; omega) | omega) (fun x hx => Qs31.1 x hx (by first | (clear g29 hps27 g6; omega) | (clear hps27 g6; omega) | omega)) jMDJ.1.2 (fun i => by show iC s31 401 (iC s31 400 i).toNat = _; rw [Qs31.2, show iC s31 400 i = iC s 400 i from fm_c Fs31 (by decide)]))⟩
        ·
          exact w_vret X.1 q hRt (ax_d X (show cdA 285 38 = some (.return_, 1, 0, 0, 0) from rfl)) (Nat.zero_le _) (Nat.zero_le _) ⟨_, rfl, Is27, Gs27, JRLx_s27, JMZJ_s27, rfl, (gtq_0 jGTJ p8 (by first | (clear hps27 g6; omega) | (clear g6; omega) | omega) (by rw [hFT]; exact hFF.elim (fun zz => absurd zz.1 (by first | (clear hps27 g6; omega) | (clear g6; omega) | omega)) (fun zz w => zz.2 (hLF.mpr w))) (by first | (clear hps27 g6; omega) | (clear g6; omega) | omega) (sam_ts (sam_fm Fs25 (by decide)) (sam_fm Fs27 (by decide))) (fun i => (mdm_fm Fs27 (by decide) i).trans (mdm_fm Fs25 (by decide) i)))⟩
    ·
      exact w_vret X.1 q hRt (ax_d X (show cdA 285 17 = some (.return_, 1, 0, 0, 0) from rfl)) (Nat.zero_le _) (Nat.zero_le _) ⟨_, rfl, I, F, jRLx, jMZJ, rfl, (gtq_no p8 (by first | (clear g6; omega) | omega))⟩
set_option maxRecDepth 4000 in
theorem k_go9S (G : GX l s0 D tys a0 dT) {U : AirD} {S : Int → Prop} {qn : Nat} {ft : Int → Prop} {B : MdO} {r : Nat} (hR : ∀ {s : PS} {x y z w u : Int} {B : MdO}, Bd s → RLx s → MDJ U s → GTJ U S qn ft s → MZJ U (hitP U S qn) s → (0 ≤ x ∧ x ≤ iI s 105) → (iI s 105 - x ≤ ((r : Nat) : Int)) → (iI s 105 ≤ 8) → (y = (qn : Int)) → (0 ≤ y ∧ y ≤ 23) → (0 ≤ z ∧ z ≤ 8) → (0 ≤ w ∧ w ≤ 8) → (0 ≤ u ∧ u ≤ 3000 * x) → (GTP U (hitP U S qn) B x s) → CT l s0 D A dT 285 (rkR (52 + (r))) [.ref (A 179), .int (Int32.ofInt x), .int (Int32.ofInt y), .int (Int32.ofInt z), .int (Int32.ofInt w), .int (Int32.ofInt u)] s (fun o t => Bd t ∧ Fm [77, 75, 78, 79, 80, 81, 106] [202, 204, 205, 206, 207, 208, 209, 210, 211, 212, 213, 214, 215, 216, 217, 218, 219, 220, 221, 222, 223, 224, 225, 226, 227, 203, 161, 230, 401, 402] s t ∧ RLx t ∧ MZJ U (hitP U S qn) t ∧ o = .inl none ∧ (GTQ U S qn ft B x u z w s t))) (I : Bd s) (jRLx : RLx s) (jMDJ : MDJ U s) (jGTJ : GTJ U S qn ft s) (jMZJ : MZJ U (hitP U S qn) s) {x y z w u : Int} (p0 : 0 ≤ x ∧ x ≤ iI s 105) (p1 : iI s 105 - x ≤ ((r + 1 : Nat) : Int)) (p2 : iI s 105 ≤ 8) (p3 : y = (qn : Int)) (p4 : 0 ≤ y ∧ y ≤ 23) (p5 : 0 ≤ z ∧ z ≤ 8) (p6 : 0 ≤ w ∧ w ≤ 8) (p7 : 0 ≤ u ∧ u ≤ 3000 * x) (p8 : GTP U (hitP U S qn) B x s) : CT l s0 D A dT 285 (rkR (52 + (r + 1))) [.ref (A 179), .int (Int32.ofInt x), .int (Int32.ofInt y), .int (Int32.ofInt z), .int (Int32.ofInt w), .int (Int32.ofInt u)] s (fun o t => Bd t ∧ Fm [77, 75, 78, 79, 80, 81, 106] [202, 204, 205, 206, 207, 208, 209, 210, 211, 212, 213, 214, 215, 216, 217, 218, 219, 220, 221, 222, 223, 224, 225, 226, 227, 203, 161, 230, 401, 402] s t ∧ RLx t ∧ MZJ U (hitP U S qn) t ∧ o = .inl none ∧ (GTQ U S qn ft B x u z w s t)) := by
  refine ct_of G (by decide) (Nat.le_of_ble_eq_true rfl) (fun k X E hRt hXt q => ?_)
  show WS k 0 [(0, .ref (A 179)), (1, .int (Int32.ofInt x)), (2, .int (Int32.ofInt y)), (3, .int (Int32.ofInt z)), (4, .int (Int32.ofInt w)), (5, .int (Int32.ofInt u))] [] _ 0 0
  have F : Fm [77, 75, 78, 79, 80, 81, 106] [202, 204, 205, 206, 207, 208, 209, 210, 211, 212, 213, 214, 215, 216, 217, 218, 219, 220, 221, 222, 223, 224, 225, 226, 227, 203, 161, 230, 401, 402] s s := fm_rf _ _ s
  have b1 : (0 : Int) ≤ iI s 105 ∧ iI s 105 ≤ 12 := I.1 105
  have b2 : ((-2147483648) : Int) ≤ iI s 106 ∧ iI s 106 ≤ 2147483647 := I.1 106
  have b3 : (1 : Int) ≤ iI s 89 ∧ iI s 89 ≤ 8 := I.1 89
  have b4 : (0 : Int) ≤ iI s 90 ∧ iI s 90 ≤ 12 := I.1 90
  have L48 : ∀ (n : Nat) (t : PS) (c : Int), Bd t → Fm [77, 75, 78, 79, 80, 81, 106] [202, 204, 205, 206, 207, 208, 209, 210, 211, 212, 213, 214, 215, 216, 217, 218, 219, 220, 221, 222, 223, 224, 225, 226, 227, 203, 161, 230, 401, 402] s t → RLx t → ((∀ x : Nat, x < 12 → (x : Int) < c → iC t 402 x = iC s 401 x) ∧ SAM 401 s t) → ((0 ≤ c ∧ c ≤ 12) ∧ iI t 106 = u) → (12 - c : Int).toNat < n → (∀ (t' : PS) (c' : Int), Bd t' → Fm [77, 75, 78, 79, 80, 81, 106] [202, 204, 205, 206, 207, 208, 209, 210, 211, 212, 213, 214, 215, 216, 217, 218, 219, 220, 221, 222, 223, 224, 225, 226, 227, 203, 161, 230, 401, 402] s t' → RLx t' → ((∀ x : Nat, x < 12 → (x : Int) < c' → iC t' 402 x = iC s 401 x) ∧ SAM 401 s t') → (c' = 12 ∧ iI t' 106 = u) → WS k 75 [(0, .ref (A 179)), (6, .int (Int32.ofInt c'))] [] (Wd A dT t') 0 0) → WS k 48 [(0, .ref (A 179)), (6, .int (Int32.ofInt c))] [] (Wd A dT t) 0 0 := by
    intro n
    induction n with
    | zero =>
      intro t c I F jjRLx hq hi hm kx
      exact absurd hm (Nat.not_lt_zero _)
    | succ n ih =>
      intro t c I F jjRLx hq hi hm kx
      have b1001 : (0 : Int) ≤ iI t 105 ∧ iI t 105 ≤ 12 := I.1 105
      have b1002 : ((-2147483648) : Int) ≤ iI t 106 ∧ iI t 106 ≤ 2147483647 := I.1 106
      have b1003 : (1 : Int) ≤ iI t 89 ∧ iI t 89 ≤ 8 := I.1 89
      have b1004 : (0 : Int) ≤ iI t 90 ∧ iI t 90 ≤ 12 := I.1 90
      refine z_load X (x := c) (show cdA 285 48 = some (.iload 6, 2, 0, 0, 0) from rfl) (List.Mem.tail _ (List.Mem.head _)) ?_
      refine z_bipush X (show cdA 285 50 = some (.bipush 12, 2, 0, 0, 12) from rfl) ?_
      refine z_icmp_ge X (t := 75) (show cdA 285 52 = some (.if_icmp .ge 23, 3, 3, 0, 0) from rfl) (by decide) ⟨by first | exact oq_fa4e5087 hi.1.1 | omega, by first | exact oq_78843a64 hi.1.2 | omega⟩ (by decide) (fun g1005 => ?_) (fun g1005 => ?_)
      ·
        refine WS_lv (lv := [(0, .ref (A 179)), (6, .int (Int32.ofInt c))]) (List.forall_mem_cons.mpr ⟨(List.Mem.head _), (List.forall_mem_cons.mpr ⟨(List.Mem.tail _ (List.Mem.head _)), (fun q h => absurd h List.not_mem_nil)⟩)⟩) ?_
        exact kx _ c I F jjRLx hq (by first | exact ⟨oq_8e7d85da hi.1.2 g1005, hi.2⟩ | omega)
      ·
        refine z_aload_n X (x := A 179) (show cdA 285 55 = some (.aload_n 0, 1, 0, 0, 0) from rfl) (List.Mem.head _) ?_
        refine s_getR X 179 (show cdA 285 56 = some (.getfield 148, 3, 12, 70, 0) from rfl) (by decide) rfl rfl ?_
        refine z_load X (x := c) (show cdA 285 59 = some (.iload 6, 2, 0, 0, 0) from rfl) (List.Mem.tail _ (List.Mem.head _)) ?_
        refine z_aload_n X (x := A 179) (show cdA 285 61 = some (.aload_n 0, 1, 0, 0, 0) from rfl) (List.Mem.head _) ?_
        refine s_getR X 179 (show cdA 285 62 = some (.getfield 145, 3, 12, 69, 0) from rfl) (by decide) rfl rfl ?_
        refine z_load X (x := c) (show cdA 285 65 = some (.iload 6, 2, 0, 0, 0) from rfl) (List.Mem.tail _ (List.Mem.head _)) ?_
        refine z_ald X 456 (show cdA 285 67 = some (.iaload, 1, 0, 0, 0) from rfl) (by decide) rfl (by first | exact hi.1.1 | omega) (show c < 12 by first | exact g1005 | omega) (by decide) ?_
        have b1006 : (0 : Int) ≤ iC t 401 (c).toNat ∧ iC t 401 (c).toNat ≤ 3 := I.2 401 _ (show (c).toNat < 12 by first | exact oq_d855cead g1005 | omega)
        refine z_ast X 457 (show cdA 285 68 = some (.iastore, 1, 0, 0, 0) from rfl) (by decide) rfl (by first | exact hi.1.1 | omega) (show c < 12 by first | exact g1005 | omega) (by decide) ?_
        obtain ⟨s1007, hs1007⟩ : ∃ x0, x0 = uC t 402 (c).toNat (Int32.ofInt (iC t 401 (c).toNat)) := ⟨_, rfl⟩
        rw [← hs1007]
        have Is1007 : Bd s1007 := by rw [hs1007]; exact bd_C I (show (0 : Int) ≤ (iC t 401 (c).toNat) ∧ (iC t 401 (c).toNat) ≤ 3 by first | exact ⟨b1006.1, b1006.2⟩ | omega) (rng_to _)
        have Fs1007 := fm_C (i := (c).toNat) (x := Int32.ofInt (iC t 401 (c).toNat)) F (show 402 ∈ _ by decide)
        rw [← hs1007] at Fs1007
        have ws1007_105 : iI s1007 105 = iI t 105 := by rw [hs1007]; rfl
        have ws1007_106 : iI s1007 106 = iI t 106 := by rw [hs1007]; rfl
        have ws1007_89 : iI s1007 89 = iI t 89 := by rw [hs1007]; rfl
        have ws1007_90 : iI s1007 90 = iI t 90 := by rw [hs1007]; rfl
        have fs1007 : Fm [] [402] t s1007 := by rw [hs1007]; exact fm_C (fm_rf _ _ _) (show 402 ∈ _ by decide)
        have JRLx_s1007 : RLx s1007 := RLx_fm fs1007 (by decide) jjRLx
        refine z_inc X (x := c) (lv' := [(6, .int (Int32.ofInt (c + 1))), (0, .ref (A 179))]) (show cdA 285 69 = some (.iinc 6 1, 3, 0, 0, 0) from rfl) (by decide) (List.Mem.tail _ (List.Mem.head _)) (fun _ h => h) ?_
        refine z_goto X (t := 48) (show cdA 285 72 = some (.goto (-24), 3, 0, 0, 0) from rfl) (by decide) ?_
        refine WS_lv (lv := [(0, .ref (A 179)), (6, .int (Int32.ofInt (c + 1)))]) (List.forall_mem_cons.mpr ⟨(List.Mem.tail _ (List.Mem.head _)), (List.forall_mem_cons.mpr ⟨(List.Mem.head _), (fun q h => absurd h List.not_mem_nil)⟩)⟩) ?_
        exact ih _ (c + 1) Is1007 Fs1007 JRLx_s1007 ⟨fun x hx h => by by_cases e : x = (c : Int).toNat; (· rw [e, hs1007, iC_u ⟨by omega, by omega⟩]; exact hq.2 _); (· rw [hs1007, iC_n e]; exact hq.1 x hx (by omega)), fun i => by rw [hs1007, iC_a (by decide)]; exact hq.2 i⟩ (by first | exact ⟨And.intro (oq_54f49eb5 hi.1.1) (oq_6a25a379 g1005), oq_1aa5be9e ws1007_106 hi.2⟩ | omega) (by first | exact qk_me hm (by decide) (oq_ab2484cf g1005) | omega) kx
  have L87 : ∀ (n : Nat) (t : PS) (sv mm : Int), Bd t → Fm [77, 75, 78, 79, 80, 81, 106] [202, 204, 205, 206, 207, 208, 209, 210, 211, 212, 213, 214, 215, 216, 217, 218, 219, 220, 221, 222, 223, 224, 225, 226, 227, 203, 161, 230, 401, 402] s t → RLx t → MDJ U t → GTJ U S qn ft t → MZJ U (hitP U S qn) t → (TSM U (hitP U S qn) (gtB (hmoS U S qn) (hrdS U S qn) ft (cHt (hitP U S qn) (uN U)) (mdM s) (x : Int).toNat u z w B mm) x s t) → ((0 ≤ x ∧ x < iI s 105) ∧ iI s 105 ≤ 8 ∧ (0 ≤ y ∧ y ≤ 23) ∧ (0 ≤ z ∧ z ≤ 8) ∧ (0 ≤ w ∧ w ≤ 8) ∧ (0 ≤ u ∧ u ≤ 3000 * x) ∧ iI t 105 = iI s 105 ∧ iI t 90 = iI s 90 ∧ (sv = iC s 400 (x : Int).toNat ∧ 0 ≤ sv ∧ sv ≤ 11) ∧ 1 ≤ mm ∧ mm ≤ 4) → (4 - mm : Int).toNat < n → (∀ (t' : PS) (mm' : Int), Bd t' → Fm [77, 75, 78, 79, 80, 81, 106] [202, 204, 205, 206, 207, 208, 209, 210, 211, 212, 213, 214, 215, 216, 217, 218, 219, 220, 221, 222, 223, 224, 225, 226, 227, 203, 161, 230, 401, 402] s t' → RLx t' → MDJ U t' → GTJ U S qn ft t' → MZJ U (hitP U S qn) t' → (TSM U (hitP U S qn) (gtB (hmoS U S qn) (hrdS U S qn) ft (cHt (hitP U S qn) (uN U)) (mdM s) (x : Int).toNat u z w B mm') x s t') → ((0 ≤ x ∧ x < iI s 105) ∧ iI s 105 ≤ 8 ∧ (0 ≤ y ∧ y ≤ 23) ∧ (0 ≤ z ∧ z ≤ 8) ∧ (0 ≤ w ∧ w ≤ 8) ∧ (0 ≤ u ∧ u ≤ 3000 * x) ∧ iI t' 105 = iI s 105 ∧ iI t' 90 = iI s 90 ∧ (sv = iC s 400 (x : Int).toNat ∧ 0 ≤ sv ∧ sv ≤ 11) ∧ mm' = 4) → WS k 196 [(0, .ref (A 179)), (1, .int (Int32.ofInt x)), (2, .int (Int32.ofInt y)), (3, .int (Int32.ofInt z)), (4, .int (Int32.ofInt w)), (5, .int (Int32.ofInt u)), (6, .int (Int32.ofInt sv)), (7, .int (Int32.ofInt mm'))] [] (Wd A dT t') 0 0) → WS k 87 [(0, .ref (A 179)), (1, .int (Int32.ofInt x)), (2, .int (Int32.ofInt y)), (3, .int (Int32.ofInt z)), (4, .int (Int32.ofInt w)), (5, .int (Int32.ofInt u)), (6, .int (Int32.ofInt sv)), (7, .int (Int32.ofInt mm))] [] (Wd A dT t) 0 0 := by
    intro n
    induction n with
    | zero =>
      intro t sv mm I F jjRLx jjMDJ jjGTJ jjMZJ hq hi hm kx
      exact absurd hm (Nat.not_lt_zero _)
    | succ n ih =>
      intro t sv mm I F jjRLx jjMDJ jjGTJ jjMZJ hq hi hm kx
      have b2001 : (0 : Int) ≤ iI t 105 ∧ iI t 105 ≤ 12 := I.1 105
      have b2002 : ((-2147483648) : Int) ≤ iI t 106 ∧ iI t 106 ≤ 2147483647 := I.1 106
      have b2003 : (1 : Int) ≤ iI t 89 ∧ iI t 89 ≤ 8 := I.1 89
      have b2004 : (0 : Int) ≤ iI t 90 ∧ iI t 90 ≤ 12 := I.1 90
      refine z_load X (x := mm) (show cdA 285 87 = some (.iload 7, 2, 0, 0, 0) from rfl) (List.Mem.tail _ (List.Mem.tail _ (List.Mem.tail _ (List.Mem.tail _ (List.Mem.tail _ (List.Mem.tail _ (List.Mem.tail _ (List.Mem.head _)))))))) ?_
      refine z_const X (show cdA 285 89 = some (.iconst 4, 1, 0, 0, 0) from rfl) ?_
      refine z_icmp_ge X (t := 196) (show cdA 285 90 = some (.if_icmp .ge 106, 3, 3, 0, 0) from rfl) (by decide) ⟨by first | exact oq_9462313e hi.2.2.2.2.2.2.2.2.2.1 | omega, by first | exact oq_4a4414da hi.2.2.2.2.2.2.2.2.2.2 | omega⟩ (by decide) (fun g2005 => ?_) (fun g2005 => ?_)
      ·
        refine WS_lv (lv := [(0, .ref (A 179)), (1, .int (Int32.ofInt x)), (2, .int (Int32.ofInt y)), (3, .int (Int32.ofInt z)), (4, .int (Int32.ofInt w)), (5, .int (Int32.ofInt u)), (6, .int (Int32.ofInt sv)), (7, .int (Int32.ofInt mm))]) (List.forall_mem_cons.mpr ⟨(List.Mem.head _), (List.forall_mem_cons.mpr ⟨(List.Mem.tail _ (List.Mem.head _)), (List.forall_mem_cons.mpr ⟨(List.Mem.tail _ (List.Mem.tail _ (List.Mem.head _))), (List.forall_mem_cons.mpr ⟨(List.Mem.tail _ (List.Mem.tail _ (List.Mem.tail _ (List.Mem.head _)))), (List.forall_mem_cons.mpr ⟨(List.Mem.tail _ (List.Mem.tail _ (List.Mem.tail _ (List.Mem.tail _ (List.Mem.head _))))), (List.forall_mem_cons.mpr ⟨(List.Mem.tail _ (List.Mem.tail _ (List.Mem.tail _ (List.Mem.tail _ (List.Mem.tail _ (List.Mem.head _)))))), (List.forall_mem_cons.mpr ⟨(List.Mem.tail _ (List.Mem.tail _ (List.Mem.tail _ (List.Mem.tail _ (List.Mem.tail _ (List.Mem.tail _ (List.Mem.head _))))))), (List.forall_mem_cons.mpr ⟨(List.Mem.tail _ (List.Mem.tail _ (List.Mem.tail _ (List.Mem.tail _ (List.Mem.tail _ (List.Mem.tail _ (List.Mem.tail _ (List.Mem.head _)))))))), (fun q h => absurd h List.not_mem_nil)⟩)⟩)⟩)⟩)⟩)⟩)⟩)⟩) ?_
        exact kx _ mm I F jjRLx jjMDJ jjGTJ jjMZJ hq (by first | exact ⟨And.intro (hi.1.1) (hi.1.2), hi.2.1, And.intro (hi.2.2.1.1) (hi.2.2.1.2), And.intro (hi.2.2.2.1.1) (hi.2.2.2.1.2), And.intro (hi.2.2.2.2.1.1) (hi.2.2.2.2.1.2), And.intro (hi.2.2.2.2.2.1.1) (hi.2.2.2.2.2.1.2), hi.2.2.2.2.2.2.1, hi.2.2.2.2.2.2.2.1, And.intro (hi.2.2.2.2.2.2.2.2.1.1) (And.intro (hi.2.2.2.2.2.2.2.2.1.2.1) (hi.2.2.2.2.2.2.2.2.1.2.2)), oq_b0bc9e24 hi.2.2.2.2.2.2.2.2.2.2 g2005⟩ | omega)
      ·
        refine z_load X (x := mm) (show cdA 285 93 = some (.iload 7, 2, 0, 0, 0) from rfl) (List.Mem.tail _ (List.Mem.tail _ (List.Mem.tail _ (List.Mem.tail _ (List.Mem.tail _ (List.Mem.tail _ (List.Mem.tail _ (List.Mem.head _)))))))) ?_
        refine z_const X (show cdA 285 95 = some (.iconst 1, 1, 0, 0, 0) from rfl) ?_
        refine z_icmp_ne X (t := 109) (show cdA 285 96 = some (.if_icmp .ne 13, 3, 1, 0, 0) from rfl) (by decide) ⟨by first | exact oq_9462313e hi.2.2.2.2.2.2.2.2.2.1 | omega, by first | exact oq_f46e1d28 g2005 | omega⟩ (by decide) (fun g2006 => ?_) (fun g2006 => ?_)
        ·
          refine z_load X (x := mm) (show cdA 285 109 = some (.iload 7, 2, 0, 0, 0) from rfl) (List.Mem.tail _ (List.Mem.tail _ (List.Mem.tail _ (List.Mem.tail _ (List.Mem.tail _ (List.Mem.tail _ (List.Mem.tail _ (List.Mem.head _)))))))) ?_
          refine z_const X (show cdA 285 111 = some (.iconst 2, 1, 0, 0, 0) from rfl) ?_
          refine z_icmp_ne X (t := 119) (show cdA 285 112 = some (.if_icmp .ne 7, 3, 1, 0, 0) from rfl) (by decide) ⟨by first | exact oq_9462313e hi.2.2.2.2.2.2.2.2.2.1 | omega, by first | exact oq_f46e1d28 g2005 | omega⟩ (by decide) (fun g2007 => ?_) (fun g2007 => ?_)
          ·
            refine z_load X (x := mm) (show cdA 285 119 = some (.iload 7, 2, 0, 0, 0) from rfl) (List.Mem.tail _ (List.Mem.tail _ (List.Mem.tail _ (List.Mem.tail _ (List.Mem.tail _ (List.Mem.tail _ (List.Mem.tail _ (List.Mem.head _)))))))) ?_
            refine z_const X (show cdA 285 121 = some (.iconst 3, 1, 0, 0, 0) from rfl) ?_
            refine z_icmp_ne X (t := 133) (show cdA 285 122 = some (.if_icmp .ne 11, 3, 1, 0, 0) from rfl) (by decide) ⟨by first | exact oq_9462313e hi.2.2.2.2.2.2.2.2.2.1 | omega, by first | exact oq_f46e1d28 g2005 | omega⟩ (by decide) (fun g2008 => ?_) (fun g2008 => ?_)
            ·
              exfalso
              omega
            ·
              refine z_load X (x := w) (show cdA 285 125 = some (.iload 4, 2, 0, 0, 0) from rfl) (List.Mem.tail _ (List.Mem.tail _ (List.Mem.tail _ (List.Mem.tail _ (List.Mem.head _))))) ?_
              refine z_if_ne X (t := 133) (show cdA 285 127 = some (.ifCond .ne 6, 3, 1, 0, 0) from rfl) (by decide) ⟨by first | exact oq_fa4e5087 hi.2.2.2.2.1.1 | omega, by first | exact oq_d3f5d874 hi.2.2.2.2.1.2 | omega⟩ (fun g2009 => ?_) (fun g2009 => ?_)
              ·
                have esv : sv = iC t 400 (x : Int).toNat := by have zz : iC t 400 (x : Int).toNat = iC s 400 (x : Int).toNat := fm_c F (by decide); omega
                have hga := gtj_at jjGTJ (j := (x : Int).toNat) (by have := jjGTJ.1.1.1; omega)
                have hgz := hga.1
                have hgb := hga.2.1
                have hdn := jjMDJ.1.1
                have hG1 := jjGTJ.1.1.1
                have hhz := hrd_z jjGTJ (x := (x : Int).toNat) (by first | (clear g2009 g2007 g2006; omega) | (clear g2007 g2006; omega) | omega) (fun b hb => (jjGTJ.2.2.2.1.2.2 b hb).1)
                rw [← esv] at hhz
                have hhm := hmo_at jjGTJ (x := (x : Int).toNat) (by first | (clear g2009 g2007 g2006; omega) | (clear g2007 g2006; omega) | omega)
                rw [← esv] at hhm
                have hRr := jjGTJ.2.1 _ hgb hga.2.2.1
                have hRb : 0 ≤ iC t 403 (sv : Int).toNat ∧ iC t 403 (sv : Int).toNat ≤ 24 := by rw [show (sv : Int).toNat = hAt (hitP U S qn) (x : Int).toNat by first | (clear g2009 g2007 g2006; omega) | (clear g2007 g2006; omega) | omega]; exact hRr.elim (fun zz => by rw [zz.1]; decide) (fun zz => by have := zz.1; omega)
                refine z_aload_n X (x := A 179) (show cdA 285 133 = some (.aload_n 0, 1, 0, 0, 0) from rfl) (List.Mem.head _) ?_
                refine s_getR X 179 (show cdA 285 134 = some (.getfield 145, 3, 12, 69, 0) from rfl) (by decide) rfl rfl ?_
                refine z_load X (x := sv) (show cdA 285 137 = some (.iload 6, 2, 0, 0, 0) from rfl) (List.Mem.tail _ (List.Mem.tail _ (List.Mem.tail _ (List.Mem.tail _ (List.Mem.tail _ (List.Mem.tail _ (List.Mem.head _))))))) ?_
                refine z_load X (x := mm) (show cdA 285 139 = some (.iload 7, 2, 0, 0, 0) from rfl) (List.Mem.tail _ (List.Mem.tail _ (List.Mem.tail _ (List.Mem.tail _ (List.Mem.tail _ (List.Mem.tail _ (List.Mem.tail _ (List.Mem.head _)))))))) ?_
                refine z_ast X 456 (show cdA 285 141 = some (.iastore, 1, 0, 0, 0) from rfl) (by decide) rfl (by first | exact hi.2.2.2.2.2.2.2.2.1.2.1 | omega) (show sv < 12 by first | exact oq_0ddfcfee hi.2.2.2.2.2.2.2.2.1.2.2 | omega) (by decide) ?_
                obtain ⟨s2010, hs2010⟩ : ∃ x0, x0 = uC t 401 (sv).toNat (Int32.ofInt mm) := ⟨_, rfl⟩
                rw [← hs2010]
                have Is2010 : Bd s2010 := by rw [hs2010]; exact bd_C I (show (0 : Int) ≤ mm ∧ mm ≤ 3 by first | exact ⟨oq_07dfda71 g2008, oq_abfb379f g2008⟩ | omega) ⟨by first | exact oq_5e17cb06 g2008 | omega, by first | exact oq_ebfd4642 g2008 | omega⟩
                have Fs2010 := fm_C (i := (sv).toNat) (x := Int32.ofInt mm) F (show 401 ∈ _ by decide)
                rw [← hs2010] at Fs2010
                have ws2010_105 : iI s2010 105 = iI t 105 := by rw [hs2010]; rfl
                have ws2010_106 : iI s2010 106 = iI t 106 := by rw [hs2010]; rfl
                have ws2010_89 : iI s2010 89 = iI t 89 := by rw [hs2010]; rfl
                have ws2010_90 : iI s2010 90 = iI t 90 := by rw [hs2010]; rfl
                have fs2010 : Fm [] [401] t s2010 := by rw [hs2010]; exact fm_C (fm_rf _ _ _) (show 401 ∈ _ by decide)
                have JRLx_s2010 : RLx s2010 := RLx_fm fs2010 (by decide) jjRLx
                have JMDJ_s2010 : MDJ U s2010 := MDJ_fm fs2010 (by decide) jjMDJ
                have JGTJ_s2010 : GTJ U S qn ft s2010 := GTJ_fm fs2010 (by decide) jjGTJ
                have hU9 : s2010 = uC t 401 (iC t 400 (x : Int).toNat).toNat (Int32.ofInt mm) := by rw [← esv]; exact hs2010
                have hMZ : MZJ U (hitP U S qn) s2010 := mzj_u jjGTJ (by first | (clear g2009 g2007 g2006; omega) | (clear g2007 g2006; omega) | omega) jjMZJ hU9
                have hGP : GTP U (hitP U S qn) (gtB (hmoS U S qn) (hrdS U S qn) ft (cHt (hitP U S qn) (uN U)) (mdM s) (x : Int).toNat u z w B mm) (x + 1) s2010 := gtp_in jjGTJ p8 hq (fun i => fm_c F (by decide)) (fun i => fm_c F (by decide)) (by first | (clear g2009 g2007 g2006; omega) | (clear g2007 g2006; omega) | omega) (by first | (clear g2009 g2007 g2006; omega) | (clear g2007 g2006; omega) | omega) hU9 (fun _ => by rw [← esv]; omega)
                refine z_aload_n X (x := A 179) (show cdA 285 142 = some (.aload_n 0, 1, 0, 0, 0) from rfl) (List.Mem.head _) ?_
                refine z_load_n X (x := x) (show cdA 285 143 = some (.iload_n 1, 1, 0, 0, 0) from rfl) (List.Mem.tail _ (List.Mem.head _)) ?_
                refine z_const X (show cdA 285 144 = some (.iconst 1, 1, 0, 0, 0) from rfl) ?_
                refine z_add X (show cdA 285 145 = some (.iadd, 1, 0, 0, 0) from rfl) ?_
                refine z_load_n X (x := y) (show cdA 285 146 = some (.iload_n 2, 1, 0, 0, 0) from rfl) (List.Mem.tail _ (List.Mem.tail _ (List.Mem.head _))) ?_
                refine z_load X (x := mm) (show cdA 285 147 = some (.iload 7, 2, 0, 0, 0) from rfl) (List.Mem.tail _ (List.Mem.tail _ (List.Mem.tail _ (List.Mem.tail _ (List.Mem.tail _ (List.Mem.tail _ (List.Mem.tail _ (List.Mem.head _)))))))) ?_
                refine z_const X (show cdA 285 149 = some (.iconst 2, 1, 0, 0, 0) from rfl) ?_
                refine z_icmp_ne X (t := 159) (show cdA 285 150 = some (.if_icmp .ne 9, 3, 1, 0, 0) from rfl) (by decide) ⟨by first | exact oq_5e17cb06 g2008 | omega, by first | exact oq_ebfd4642 g2008 | omega⟩ (by decide) (fun g2011 => ?_) (fun g2011 => ?_)
                ·
                  refine z_load_n X (x := z) (show cdA 285 159 = some (.iload_n 3, 1, 0, 0, 0) from rfl) (List.Mem.tail _ (List.Mem.tail _ (List.Mem.tail _ (List.Mem.head _)))) ?_
                  refine z_load X (x := mm) (show cdA 285 160 = some (.iload 7, 2, 0, 0, 0) from rfl) (List.Mem.tail _ (List.Mem.tail _ (List.Mem.tail _ (List.Mem.tail _ (List.Mem.tail _ (List.Mem.tail _ (List.Mem.tail _ (List.Mem.head _)))))))) ?_
                  refine z_const X (show cdA 285 162 = some (.iconst 3, 1, 0, 0, 0) from rfl) ?_
                  refine z_icmp_ne X (t := 173) (show cdA 285 163 = some (.if_icmp .ne 10, 3, 1, 0, 0) from rfl) (by decide) ⟨by first | exact oq_5e17cb06 g2008 | omega, by first | exact oq_ebfd4642 g2008 | omega⟩ (by decide) (fun g2012 => ?_) (fun g2012 => ?_)
                  ·
                    exfalso
                    omega
                  ·
                    refine z_load X (x := w) (show cdA 285 166 = some (.iload 4, 2, 0, 0, 0) from rfl) (List.Mem.tail _ (List.Mem.tail _ (List.Mem.tail _ (List.Mem.tail _ (List.Mem.head _))))) ?_
                    refine z_const X (show cdA 285 168 = some (.iconst 1, 1, 0, 0, 0) from rfl) ?_
                    refine z_sub X (show cdA 285 169 = some (.isub, 1, 0, 0, 0) from rfl) ?_
                    refine z_goto X (t := 175) (show cdA 285 170 = some (.goto 5, 3, 0, 0, 0) from rfl) (by decide) ?_
                    refine z_load X (x := u) (show cdA 285 175 = some (.iload 5, 2, 0, 0, 0) from rfl) (List.Mem.tail _ (List.Mem.tail _ (List.Mem.tail _ (List.Mem.tail _ (List.Mem.tail _ (List.Mem.head _)))))) ?_
                    refine z_aload_n X (x := A 179) (show cdA 285 177 = some (.aload_n 0, 1, 0, 0, 0) from rfl) (List.Mem.head _) ?_
                    refine z_load X (x := sv) (show cdA 285 178 = some (.iload 6, 2, 0, 0, 0) from rfl) (List.Mem.tail _ (List.Mem.tail _ (List.Mem.tail _ (List.Mem.tail _ (List.Mem.tail _ (List.Mem.tail _ (List.Mem.head _))))))) ?_
                    refine z_load X (x := mm) (show cdA 285 180 = some (.iload 7, 2, 0, 0, 0) from rfl) (List.Mem.tail _ (List.Mem.tail _ (List.Mem.tail _ (List.Mem.tail _ (List.Mem.tail _ (List.Mem.tail _ (List.Mem.tail _ (List.Mem.head _)))))))) ?_
                    refine z_load_n X (x := y) (show cdA 285 182 = some (.iload_n 2, 1, 0, 0, 0) from rfl) (List.Mem.tail _ (List.Mem.tail _ (List.Mem.head _))) ?_
                    have hrn : iC s2010 403 (sv : Int).toNat = iC t 403 (sv : Int).toNat := by rw [hs2010]; exact iC_a (by decide)
                    refine z_callV X 179 (rm := rmN 282) (As := [.int (Int32.ofInt sv), .int (Int32.ofInt mm), .int (Int32.ofInt y)]) (st := [.int (Int32.ofInt u), .int (Int32.ofInt (w - 1)), .int (Int32.ofInt z), .int (Int32.ofInt y), .int (Int32.ofInt (x + 1)), .ref (A 179)]) (show cdA 285 183 = some (.invokevirtual 443, 3, 282, 0, 0) from rfl) rfl (by decide) rfl (by rw [E.1, E.2.1, E.2.2.1]; exact k_minutes9 G Is2010 JMDJ_s2010 (by first | exact ⟨hi.2.2.2.2.2.2.2.2.1.2.1, by first | (clear g2011 g2009 g2007 g2006; omega) | (clear g2009 g2007 g2006; omega) | omega⟩ | omega) (by first | exact ⟨hi.2.2.2.2.2.2.2.2.2.1, oq_abfb379f g2012⟩ | omega) (by first | exact ⟨hi.2.2.1.1, hi.2.2.1.2⟩ | omega) (by first | exact ⟨oq_e4757433 hrn hRb.1, oq_74332778 hrn hRb.2⟩ | omega)) ⟨by rw [E.2.2.2]; exact (show 8 + 1 ≤ (12 + (52 + (r + 1))) from oq_edd5f4e9 r), by rw [E.2.2.2]; exact (show 8 + (5 + 11) + 146 ≤ (500 + 45 * (52 + (r + 1))) from oq_2709c6fe r), by rw [E.2.2.2]; exact Nat.le_refl 0, by rw [E.2.2.2]; exact Nat.le_refl 0⟩ (Nat.le_of_ble_eq_true rfl) (fun vv s2013 hq => ?_) (fun ee s2013 hq => ?_)
                    rotate_left
                    · obtain ⟨Is2013, Fs2013, e2014, hv, hrs2013, hps2013⟩ := hq; cases hv
                    obtain ⟨Is2013, Fs2013, e2014, hv, hrs2013, hps2013⟩ := hq
                    have hps2013p := hps2013.1
                    cases hv
                    have Gs2013 := fm_ts Fs2010 Fs2013 (by decide) (by decide)
                    have JRLx_s2013 : RLx s2013 := RLx_fm Fs2013 (by decide) JRLx_s2010
                    have JMDJ_s2013 : MDJ U s2013 := MDJ_fm Fs2013 (by decide) JMDJ_s2010
                    have JGTJ_s2013 : GTJ U S qn ft s2013 := GTJ_fm Fs2013 (by decide) JGTJ_s2010
                    have JMZJ_s2013 : MZJ U (hitP U S qn) s2013 := MZJ_fm Fs2013 (by decide) hMZ
                    have ws2013_105 : iI s2013 105 = iI s2010 105 := fm_i Fs2013 (by decide)
                    have ws2013_106 : iI s2013 106 = iI s2010 106 := fm_i Fs2013 (by decide)
                    have ws2013_89 : iI s2013 89 = iI s2010 89 := fm_i Fs2013 (by decide)
                    have ws2013_90 : iI s2013 90 = iI s2010 90 := fm_i Fs2013 (by decide)
                    show WS k 186 [(0, .ref (A 179)), (1, .int (Int32.ofInt x)), (2, .int (Int32.ofInt y)), (3, .int (Int32.ofInt z)), (4, .int (Int32.ofInt w)), (5, .int (Int32.ofInt u)), (6, .int (Int32.ofInt sv)), (7, .int (Int32.ofInt mm))] [.int (Int32.ofInt e2014), .int (Int32.ofInt u), .int (Int32.ofInt (w - 1)), .int (Int32.ofInt z), .int (Int32.ofInt y), .int (Int32.ofInt (x + 1)), .ref (A 179)] (Wd A dT s2013) 0 0
                    have hmb := hps2013.1
                    refine z_add X (show cdA 285 186 = some (.iadd, 1, 0, 0, 0) from rfl) ?_
                    refine z_callV X 179 (rm := (rkR (52 + (r)))) (As := [.int (Int32.ofInt (x + 1)), .int (Int32.ofInt y), .int (Int32.ofInt z), .int (Int32.ofInt (w - 1)), .int (Int32.ofInt (u + e2014))]) (st := []) (show cdA 285 187 = some (.invokevirtual 447, 3, 285, 0, 0) from rfl) rfl (by decide) rfl (by rw [E.1, E.2.1, E.2.2.1]; exact hR Is2013 JRLx_s2013 JMDJ_s2013 JGTJ_s2013 JMZJ_s2013 (by first | exact ⟨oq_54f49eb5 hi.1.1, oq_11bbe77e ws2013_105 hi.1.2 ws2010_105 hi.2.2.2.2.2.2.1⟩ | omega) (by first | exact oq_7e901d26 p1 ws2013_105 ws2010_105 hi.2.2.2.2.2.2.1 | omega) (by first | exact oq_e14d47df ws2013_105 ws2010_105 hi.2.2.2.2.2.2.1 hi.2.1 | omega) (by first | exact p3 | omega) (by first | exact ⟨hi.2.2.1.1, hi.2.2.1.2⟩ | omega) (by first | exact ⟨hi.2.2.2.1.1, hi.2.2.2.1.2⟩ | omega) (by first | exact ⟨oq_8af9d5df g2009 hi.2.2.2.2.1.1, oq_d7fe5c3c hi.2.2.2.2.1.2⟩ | omega) (by first | (clear hps2013 g2011 g2009 g2007 g2006; omega) | (clear g2011 g2009 g2007 g2006; omega) | omega) ((gtp_fm Fs2013 (by decide) hGP))) ⟨by rw [E.2.2.2]; exact (show (12 + (52 + (r))) + 1 ≤ (12 + (52 + (r + 1))) from oq_c268f935 r), by rw [E.2.2.2]; exact (show 8 + (8 + 11) + (500 + 45 * (52 + (r))) ≤ (500 + 45 * (52 + (r + 1))) from oq_488e467a r), by rw [E.2.2.2]; exact Nat.le_refl 0, by rw [E.2.2.2]; exact Nat.le_refl 0⟩ (Nat.le_of_ble_eq_true rfl) (fun vv s2015 hq => ?_) (fun ee s2015 hq => ?_)
                    rotate_left
                    · obtain ⟨Is2015, Fs2015, JRLx_s2015, JMZJ_s2015, hv, hps2015⟩ := hq; cases hv
                    obtain ⟨Is2015, Fs2015, JRLx_s2015, JMZJ_s2015, hv, hps2015⟩ := hq
                    cases hv
                    have Gs2015 := fm_ts Gs2013 Fs2015 (by decide) (by decide)
                    have JRLx_s2015 : RLx s2015 := RLx_fm Fs2015 (by decide) JRLx_s2013
                    have JMDJ_s2015 : MDJ U s2015 := MDJ_fm Fs2015 (by decide) JMDJ_s2013
                    have JGTJ_s2015 : GTJ U S qn ft s2015 := GTJ_fm Fs2015 (by decide) JGTJ_s2013
                    have ws2015_105 : iI s2015 105 = iI s2013 105 := fm_i Fs2015 (by decide)
                    have b2017 : ((-2147483648) : Int) ≤ iI s2015 106 ∧ iI s2015 106 ≤ 2147483647 := Is2015.1 106
                    have ws2015_89 : iI s2015 89 = iI s2013 89 := fm_i Fs2015 (by decide)
                    have ws2015_90 : iI s2015 90 = iI s2013 90 := fm_i Fs2015 (by decide)
                    show WS k 190 [(0, .ref (A 179)), (1, .int (Int32.ofInt x)), (2, .int (Int32.ofInt y)), (3, .int (Int32.ofInt z)), (4, .int (Int32.ofInt w)), (5, .int (Int32.ofInt u)), (6, .int (Int32.ofInt sv)), (7, .int (Int32.ofInt mm))] [] (Wd A dT s2015) 0 0
                    refine z_inc X (x := mm) (lv' := [(7, .int (Int32.ofInt (mm + 1))), (0, .ref (A 179)), (1, .int (Int32.ofInt x)), (2, .int (Int32.ofInt y)), (3, .int (Int32.ofInt z)), (4, .int (Int32.ofInt w)), (5, .int (Int32.ofInt u)), (6, .int (Int32.ofInt sv))]) (show cdA 285 190 = some (.iinc 7 1, 3, 0, 0, 0) from rfl) (by decide) (List.Mem.tail _ (List.Mem.tail _ (List.Mem.tail _ (List.Mem.tail _ (List.Mem.tail _ (List.Mem.tail _ (List.Mem.tail _ (List.Mem.head _)))))))) (fun _ h => h) ?_
                    refine z_goto X (t := 87) (show cdA 285 193 = some (.goto (-106), 3, 0, 0, 0) from rfl) (by decide) ?_
                    refine WS_lv (lv := [(0, .ref (A 179)), (1, .int (Int32.ofInt x)), (2, .int (Int32.ofInt y)), (3, .int (Int32.ofInt z)), (4, .int (Int32.ofInt w)), (5, .int (Int32.ofInt u)), (6, .int (Int32.ofInt sv)), (7, .int (Int32.ofInt (mm + 1)))]) (List.forall_mem_cons.mpr ⟨(List.Mem.tail _ (List.Mem.head _)), (List.forall_mem_cons.mpr ⟨(List.Mem.tail _ (List.Mem.tail _ (List.Mem.head _))), (List.forall_mem_cons.mpr ⟨(List.Mem.tail _ (List.Mem.tail _ (List.Mem.tail _ (List.Mem.head _)))), (List.forall_mem_cons.mpr ⟨(List.Mem.tail _ (List.Mem.tail _ (List.Mem.tail _ (List.Mem.tail _ (List.Mem.head _))))), (List.forall_mem_cons.mpr ⟨(List.Mem.tail _ (List.Mem.tail _ (List.Mem.tail _ (List.Mem.tail _ (List.Mem.tail _ (List.Mem.head _)))))), (List.forall_mem_cons.mpr ⟨(List.Mem.tail _ (List.Mem.tail _ (List.Mem.tail _ (List.Mem.tail _ (List.Mem.tail _ (List.Mem.tail _ (List.Mem.head _))))))), (List.forall_mem_cons.mpr ⟨(List.Mem.tail _ (List.Mem.tail _ (List.Mem.tail _ (List.Mem.tail _ (List.Mem.tail _ (List.Mem.tail _ (List.Mem.tail _ (List.Mem.head _)))))))), (List.forall_mem_cons.mpr ⟨(List.Mem.head _), (fun q h => absurd h List.not_mem_nil)⟩)⟩)⟩)⟩)⟩)⟩)⟩)⟩) ?_
                    have hev : e2014 = 60 * hmoS U S qn (x : Int).toNat := by rw [hhm]; have zz := hps2013.2; rw [hyq] at zz; rcases zz with zz | zz | zz; (· exact absurd zz.1 (by first | (clear hps2013 g2011 g2009 g2007 g2006; omega) | (clear g2011 g2009 g2007 g2006; omega) | omega)); (· exact absurd zz.1 (by first | (clear hps2013 g2011 g2009 g2007 g2006; omega) | (clear g2011 g2009 g2007 g2006; omega) | omega)); (· exact zz.2)
                    have hgg0 : GTQ U S qn ft (gtB (hmoS U S qn) (hrdS U S qn) ft (cHt (hitP U S qn) (uN U)) (mdM s) (x : Int).toNat u z w B mm) (x + 1) (u + 60 * hmoS U S qn (x : Int).toNat) z (w - 1) s2013 s2015 := by have zz := hps2015; rw [hev] at zz; exact zz
                    have hgg := gtq_s (b := s2010) (fun j => mdm_fm Fs2013 (by decide) j) hgg0
                    exact ih _ sv (mm + 1) Is2015 Gs2015 JRLx_s2015 JMDJ_s2015 JGTJ_s2015 JMZJ_s2015 (by rw [show mm + 1 = 4 by first | (clear hps2013 g2011 g2009 g2007 g2006; omega) | (clear g2011 g2009 g2007 g2006; omega) | omega, gtb_3 (show 0 < w by first | (clear hps2013 g2011 g2009 g2007 g2006; omega) | (clear g2011 g2009 g2007 g2006; omega) | omega)]; have zz := tsm_call (m := mm) jjGTJ hq (by first | (clear hps2013 g2011 g2009 g2007 g2006; omega) | (clear g2011 g2009 g2007 g2006; omega) | omega) (by first | (clear hps2013 g2011 g2009 g2007 g2006; omega) | (clear g2011 g2009 g2007 g2006; omega) | omega) hU9 hgg; rw [show mm = 3 by first | (clear hps2013 g2011 g2009 g2007 g2006; omega) | (clear g2011 g2009 g2007 g2006; omega) | omega] at zz; exact zz) (by first | exact ⟨And.intro (hi.1.1) (hi.1.2), hi.2.1, And.intro (hi.2.2.1.1) (hi.2.2.1.2), And.intro (hi.2.2.2.1.1) (hi.2.2.2.1.2), And.intro (hi.2.2.2.2.1.1) (hi.2.2.2.2.1.2), And.intro (hi.2.2.2.2.2.1.1) (hi.2.2.2.2.2.1.2), oq_ac0e91e1 ws2015_105 ws2013_105 ws2010_105 hi.2.2.2.2.2.2.1, oq_45b593e3 ws2015_90 hi.2.2.2.2.2.2.2.1 ws2013_90 ws2010_90, And.intro (hi.2.2.2.2.2.2.2.2.1.1) (And.intro (hi.2.2.2.2.2.2.2.2.1.2.1) (hi.2.2.2.2.2.2.2.2.1.2.2)), oq_25f0e837 g2012, oq_a93cab5a g2012⟩ | omega) (by first | exact qk_me hm (by decide) (oq_7ba9b3ae g2012) | omega) kx
                ·
                  exfalso
                  omega
              ·
                refine z_goto X (t := 190) (show cdA 285 130 = some (.goto 60, 3, 0, 0, 0) from rfl) (by decide) ?_
                refine z_inc X (x := mm) (lv' := [(7, .int (Int32.ofInt (mm + 1))), (0, .ref (A 179)), (1, .int (Int32.ofInt x)), (2, .int (Int32.ofInt y)), (3, .int (Int32.ofInt z)), (4, .int (Int32.ofInt w)), (5, .int (Int32.ofInt u)), (6, .int (Int32.ofInt sv))]) (show cdA 285 190 = some (.iinc 7 1, 3, 0, 0, 0) from rfl) (by decide) (List.Mem.tail _ (List.Mem.tail _ (List.Mem.tail _ (List.Mem.tail _ (List.Mem.tail _ (List.Mem.tail _ (List.Mem.tail _ (List.Mem.head _)))))))) (fun _ h => h) ?_
                refine z_goto X (t := 87) (show cdA 285 193 = some (.goto (-106), 3, 0, 0, 0) from rfl) (by decide) ?_
                refine WS_lv (lv := [(0, .ref (A 179)), (1, .int (Int32.ofInt x)), (2, .int (Int32.ofInt y)), (3, .int (Int32.ofInt z)), (4, .int (Int32.ofInt w)), (5, .int (Int32.ofInt u)), (6, .int (Int32.ofInt sv)), (7, .int (Int32.ofInt (mm + 1)))]) (List.forall_mem_cons.mpr ⟨(List.Mem.tail _ (List.Mem.head _)), (List.forall_mem_cons.mpr ⟨(List.Mem.tail _ (List.Mem.tail _ (List.Mem.head _))), (List.forall_mem_cons.mpr ⟨(List.Mem.tail _ (List.Mem.tail _ (List.Mem.tail _ (List.Mem.head _)))), (List.forall_mem_cons.mpr ⟨(List.Mem.tail _ (List.Mem.tail _ (List.Mem.tail _ (List.Mem.tail _ (List.Mem.head _))))), (List.forall_mem_cons.mpr ⟨(List.Mem.tail _ (List.Mem.tail _ (List.Mem.tail _ (List.Mem.tail _ (List.Mem.tail _ (List.Mem.head _)))))), (List.forall_mem_cons.mpr ⟨(List.Mem.tail _ (List.Mem.tail _ (List.Mem.tail _ (List.Mem.tail _ (List.Mem.tail _ (List.Mem.tail _ (List.Mem.head _))))))), (List.forall_mem_cons.mpr ⟨(List.Mem.tail _ (List.Mem.tail _ (List.Mem.tail _ (List.Mem.tail _ (List.Mem.tail _ (List.Mem.tail _ (List.Mem.tail _ (List.Mem.head _)))))))), (List.forall_mem_cons.mpr ⟨(List.Mem.head _), (fun q h => absurd h List.not_mem_nil)⟩)⟩)⟩)⟩)⟩)⟩)⟩)⟩) ?_
                exact ih _ sv (mm + 1) I F jjRLx jjMDJ jjGTJ jjMZJ (by rw [show mm + 1 = 4 by first | (clear g2007 g2006; omega) | (clear g2006; omega) | omega, gtb_3n (show ¬ 0 < w by first | (clear g2007 g2006; omega) | (clear g2006; omega) | omega)]; have zz := hq; rw [show mm = 3 by first | (clear g2007 g2006; omega) | (clear g2006; omega) | omega] at zz; exact zz) (by first | exact ⟨And.intro (hi.1.1) (hi.1.2), hi.2.1, And.intro (hi.2.2.1.1) (hi.2.2.1.2), And.intro (hi.2.2.2.1.1) (hi.2.2.2.1.2), And.intro (hi.2.2.2.2.1.1) (hi.2.2.2.2.1.2), And.intro (hi.2.2.2.2.2.1.1) (hi.2.2.2.2.2.1.2), hi.2.2.2.2.2.2.1, hi.2.2.2.2.2.2.2.1, And.intro (hi.2.2.2.2.2.2.2.2.1.1) (And.intro (hi.2.2.2.2.2.2.2.2.1.2.1) (hi.2.2.2.2.2.2.2.2.1.2.2)), oq_25f0e837 g2008, oq_a93cab5a g2008⟩ | omega) (by first | exact qk_me hm (by decide) (oq_7ba9b3ae g2008) | omega) kx
          ·
            refine z_load_n X (x := z) (show cdA 285 115 = some (.iload_n 3, 1, 0, 0, 0) from rfl) (List.Mem.tail _ (List.Mem.tail _ (List.Mem.tail _ (List.Mem.head _)))) ?_
            refine z_if_eq X (t := 190) (show cdA 285 116 = some (.ifCond .eq 74, 3, 0, 0, 0) from rfl) (by decide) ⟨by first | exact oq_fa4e5087 hi.2.2.2.1.1 | omega, by first | exact oq_d3f5d874 hi.2.2.2.1.2 | omega⟩ (fun g2018 => ?_) (fun g2018 => ?_)
            ·
              refine z_inc X (x := mm) (lv' := [(7, .int (Int32.ofInt (mm + 1))), (0, .ref (A 179)), (1, .int (Int32.ofInt x)), (2, .int (Int32.ofInt y)), (3, .int (Int32.ofInt z)), (4, .int (Int32.ofInt w)), (5, .int (Int32.ofInt u)), (6, .int (Int32.ofInt sv))]) (show cdA 285 190 = some (.iinc 7 1, 3, 0, 0, 0) from rfl) (by decide) (List.Mem.tail _ (List.Mem.tail _ (List.Mem.tail _ (List.Mem.tail _ (List.Mem.tail _ (List.Mem.tail _ (List.Mem.tail _ (List.Mem.head _)))))))) (fun _ h => h) ?_
              refine z_goto X (t := 87) (show cdA 285 193 = some (.goto (-106), 3, 0, 0, 0) from rfl) (by decide) ?_
              refine WS_lv (lv := [(0, .ref (A 179)), (1, .int (Int32.ofInt x)), (2, .int (Int32.ofInt y)), (3, .int (Int32.ofInt z)), (4, .int (Int32.ofInt w)), (5, .int (Int32.ofInt u)), (6, .int (Int32.ofInt sv)), (7, .int (Int32.ofInt (mm + 1)))]) (List.forall_mem_cons.mpr ⟨(List.Mem.tail _ (List.Mem.head _)), (List.forall_mem_cons.mpr ⟨(List.Mem.tail _ (List.Mem.tail _ (List.Mem.head _))), (List.forall_mem_cons.mpr ⟨(List.Mem.tail _ (List.Mem.tail _ (List.Mem.tail _ (List.Mem.head _)))), (List.forall_mem_cons.mpr ⟨(List.Mem.tail _ (List.Mem.tail _ (List.Mem.tail _ (List.Mem.tail _ (List.Mem.head _))))), (List.forall_mem_cons.mpr ⟨(List.Mem.tail _ (List.Mem.tail _ (List.Mem.tail _ (List.Mem.tail _ (List.Mem.tail _ (List.Mem.head _)))))), (List.forall_mem_cons.mpr ⟨(List.Mem.tail _ (List.Mem.tail _ (List.Mem.tail _ (List.Mem.tail _ (List.Mem.tail _ (List.Mem.tail _ (List.Mem.head _))))))), (List.forall_mem_cons.mpr ⟨(List.Mem.tail _ (List.Mem.tail _ (List.Mem.tail _ (List.Mem.tail _ (List.Mem.tail _ (List.Mem.tail _ (List.Mem.tail _ (List.Mem.head _)))))))), (List.forall_mem_cons.mpr ⟨(List.Mem.head _), (fun q h => absurd h List.not_mem_nil)⟩)⟩)⟩)⟩)⟩)⟩)⟩)⟩) ?_
              exact ih _ sv (mm + 1) I F jjRLx jjMDJ jjGTJ jjMZJ (by rw [show mm + 1 = 3 by first | (clear g2006; omega) | omega, gtb_2n (show ¬ 0 < z by first | (clear g2006; omega) | omega)]; have zz := hq; rw [show mm = 2 by first | (clear g2006; omega) | omega] at zz; exact zz) (by first | exact ⟨And.intro (hi.1.1) (hi.1.2), hi.2.1, And.intro (hi.2.2.1.1) (hi.2.2.1.2), And.intro (hi.2.2.2.1.1) (hi.2.2.2.1.2), And.intro (hi.2.2.2.2.1.1) (hi.2.2.2.2.1.2), And.intro (hi.2.2.2.2.2.1.1) (hi.2.2.2.2.2.1.2), hi.2.2.2.2.2.2.1, hi.2.2.2.2.2.2.2.1, And.intro (hi.2.2.2.2.2.2.2.2.1.1) (And.intro (hi.2.2.2.2.2.2.2.2.1.2.1) (hi.2.2.2.2.2.2.2.2.1.2.2)), oq_af66aac3 g2007, oq_8a625f99 g2007⟩ | omega) (by first | exact qk_me hm (by decide) (oq_07728ffc g2007) | omega) kx
            ·
              refine z_load X (x := mm) (show cdA 285 119 = some (.iload 7, 2, 0, 0, 0) from rfl) (List.Mem.tail _ (List.Mem.tail _ (List.Mem.tail _ (List.Mem.tail _ (List.Mem.tail _ (List.Mem.tail _ (List.Mem.tail _ (List.Mem.head _)))))))) ?_
              refine z_const X (show cdA 285 121 = some (.iconst 3, 1, 0, 0, 0) from rfl) ?_
              refine z_icmp_ne X (t := 133) (show cdA 285 122 = some (.if_icmp .ne 11, 3, 1, 0, 0) from rfl) (by decide) ⟨by first | exact oq_2cfdb1ef g2007 | omega, by first | exact oq_9e96a037 g2007 | omega⟩ (by decide) (fun g2019 => ?_) (fun g2019 => ?_)
              ·
                have esv : sv = iC t 400 (x : Int).toNat := by have zz : iC t 400 (x : Int).toNat = iC s 400 (x : Int).toNat := fm_c F (by decide); omega
                have hga := gtj_at jjGTJ (j := (x : Int).toNat) (by have := jjGTJ.1.1.1; omega)
                have hgz := hga.1
                have hgb := hga.2.1
                have hdn := jjMDJ.1.1
                have hG1 := jjGTJ.1.1.1
                have hhz := hrd_z jjGTJ (x := (x : Int).toNat) (by first | (clear g2019 g2018 g2006; omega) | (clear g2018 g2006; omega) | omega) (fun b hb => (jjGTJ.2.2.2.1.2.2 b hb).1)
                rw [← esv] at hhz
                have hhm := hmo_at jjGTJ (x := (x : Int).toNat) (by first | (clear g2019 g2018 g2006; omega) | (clear g2018 g2006; omega) | omega)
                rw [← esv] at hhm
                have hRr := jjGTJ.2.1 _ hgb hga.2.2.1
                have hRb : 0 ≤ iC t 403 (sv : Int).toNat ∧ iC t 403 (sv : Int).toNat ≤ 24 := by rw [show (sv : Int).toNat = hAt (hitP U S qn) (x : Int).toNat by first | (clear g2019 g2018 g2006; omega) | (clear g2018 g2006; omega) | omega]; exact hRr.elim (fun zz => by rw [zz.1]; decide) (fun zz => by have := zz.1; omega)
                refine z_aload_n X (x := A 179) (show cdA 285 133 = some (.aload_n 0, 1, 0, 0, 0) from rfl) (List.Mem.head _) ?_
                refine s_getR X 179 (show cdA 285 134 = some (.getfield 145, 3, 12, 69, 0) from rfl) (by decide) rfl rfl ?_
                refine z_load X (x := sv) (show cdA 285 137 = some (.iload 6, 2, 0, 0, 0) from rfl) (List.Mem.tail _ (List.Mem.tail _ (List.Mem.tail _ (List.Mem.tail _ (List.Mem.tail _ (List.Mem.tail _ (List.Mem.head _))))))) ?_
                refine z_load X (x := mm) (show cdA 285 139 = some (.iload 7, 2, 0, 0, 0) from rfl) (List.Mem.tail _ (List.Mem.tail _ (List.Mem.tail _ (List.Mem.tail _ (List.Mem.tail _ (List.Mem.tail _ (List.Mem.tail _ (List.Mem.head _)))))))) ?_
                refine z_ast X 456 (show cdA 285 141 = some (.iastore, 1, 0, 0, 0) from rfl) (by decide) rfl (by first | exact hi.2.2.2.2.2.2.2.2.1.2.1 | omega) (show sv < 12 by first | exact oq_0ddfcfee hi.2.2.2.2.2.2.2.2.1.2.2 | omega) (by decide) ?_
                obtain ⟨s2020, hs2020⟩ : ∃ x0, x0 = uC t 401 (sv).toNat (Int32.ofInt mm) := ⟨_, rfl⟩
                rw [← hs2020]
                have Is2020 : Bd s2020 := by rw [hs2020]; exact bd_C I (show (0 : Int) ≤ mm ∧ mm ≤ 3 by first | exact ⟨oq_d3dec1fc g2007, oq_783454c6 g2007⟩ | omega) ⟨by first | exact oq_2cfdb1ef g2007 | omega, by first | exact oq_9e96a037 g2007 | omega⟩
                have Fs2020 := fm_C (i := (sv).toNat) (x := Int32.ofInt mm) F (show 401 ∈ _ by decide)
                rw [← hs2020] at Fs2020
                have ws2020_105 : iI s2020 105 = iI t 105 := by rw [hs2020]; rfl
                have ws2020_106 : iI s2020 106 = iI t 106 := by rw [hs2020]; rfl
                have ws2020_89 : iI s2020 89 = iI t 89 := by rw [hs2020]; rfl
                have ws2020_90 : iI s2020 90 = iI t 90 := by rw [hs2020]; rfl
                have fs2020 : Fm [] [401] t s2020 := by rw [hs2020]; exact fm_C (fm_rf _ _ _) (show 401 ∈ _ by decide)
                have JRLx_s2020 : RLx s2020 := RLx_fm fs2020 (by decide) jjRLx
                have JMDJ_s2020 : MDJ U s2020 := MDJ_fm fs2020 (by decide) jjMDJ
                have JGTJ_s2020 : GTJ U S qn ft s2020 := GTJ_fm fs2020 (by decide) jjGTJ
                have hU9 : s2020 = uC t 401 (iC t 400 (x : Int).toNat).toNat (Int32.ofInt mm) := by rw [← esv]; exact hs2020
                have hMZ : MZJ U (hitP U S qn) s2020 := mzj_u jjGTJ (by first | (clear g2019 g2018 g2006; omega) | (clear g2018 g2006; omega) | omega) jjMZJ hU9
                have hGP : GTP U (hitP U S qn) (gtB (hmoS U S qn) (hrdS U S qn) ft (cHt (hitP U S qn) (uN U)) (mdM s) (x : Int).toNat u z w B mm) (x + 1) s2020 := gtp_in jjGTJ p8 hq (fun i => fm_c F (by decide)) (fun i => fm_c F (by decide)) (by first | (clear g2019 g2018 g2006; omega) | (clear g2018 g2006; omega) | omega) (by first | (clear g2019 g2018 g2006; omega) | (clear g2018 g2006; omega) | omega) hU9 (fun _ => by rw [← esv]; omega)
                refine z_aload_n X (x := A 179) (show cdA 285 142 = some (.aload_n 0, 1, 0, 0, 0) from rfl) (List.Mem.head _) ?_
                refine z_load_n X (x := x) (show cdA 285 143 = some (.iload_n 1, 1, 0, 0, 0) from rfl) (List.Mem.tail _ (List.Mem.head _)) ?_
                refine z_const X (show cdA 285 144 = some (.iconst 1, 1, 0, 0, 0) from rfl) ?_
                refine z_add X (show cdA 285 145 = some (.iadd, 1, 0, 0, 0) from rfl) ?_
                refine z_load_n X (x := y) (show cdA 285 146 = some (.iload_n 2, 1, 0, 0, 0) from rfl) (List.Mem.tail _ (List.Mem.tail _ (List.Mem.head _))) ?_
                refine z_load X (x := mm) (show cdA 285 147 = some (.iload 7, 2, 0, 0, 0) from rfl) (List.Mem.tail _ (List.Mem.tail _ (List.Mem.tail _ (List.Mem.tail _ (List.Mem.tail _ (List.Mem.tail _ (List.Mem.tail _ (List.Mem.head _)))))))) ?_
                refine z_const X (show cdA 285 149 = some (.iconst 2, 1, 0, 0, 0) from rfl) ?_
                refine z_icmp_ne X (t := 159) (show cdA 285 150 = some (.if_icmp .ne 9, 3, 1, 0, 0) from rfl) (by decide) ⟨by first | exact oq_2cfdb1ef g2007 | omega, by first | exact oq_9e96a037 g2007 | omega⟩ (by decide) (fun g2021 => ?_) (fun g2021 => ?_)
                ·
                  exfalso
                  omega
                ·
                  refine z_load_n X (x := z) (show cdA 285 153 = some (.iload_n 3, 1, 0, 0, 0) from rfl) (List.Mem.tail _ (List.Mem.tail _ (List.Mem.tail _ (List.Mem.head _)))) ?_
                  refine z_const X (show cdA 285 154 = some (.iconst 1, 1, 0, 0, 0) from rfl) ?_
                  refine z_sub X (show cdA 285 155 = some (.isub, 1, 0, 0, 0) from rfl) ?_
                  refine z_goto X (t := 160) (show cdA 285 156 = some (.goto 4, 3, 0, 0, 0) from rfl) (by decide) ?_
                  refine z_load X (x := mm) (show cdA 285 160 = some (.iload 7, 2, 0, 0, 0) from rfl) (List.Mem.tail _ (List.Mem.tail _ (List.Mem.tail _ (List.Mem.tail _ (List.Mem.tail _ (List.Mem.tail _ (List.Mem.tail _ (List.Mem.head _)))))))) ?_
                  refine z_const X (show cdA 285 162 = some (.iconst 3, 1, 0, 0, 0) from rfl) ?_
                  refine z_icmp_ne X (t := 173) (show cdA 285 163 = some (.if_icmp .ne 10, 3, 1, 0, 0) from rfl) (by decide) ⟨by first | exact oq_2cfdb1ef g2021 | omega, by first | exact oq_9e96a037 g2021 | omega⟩ (by decide) (fun g2022 => ?_) (fun g2022 => ?_)
                  ·
                    refine z_load X (x := w) (show cdA 285 173 = some (.iload 4, 2, 0, 0, 0) from rfl) (List.Mem.tail _ (List.Mem.tail _ (List.Mem.tail _ (List.Mem.tail _ (List.Mem.head _))))) ?_
                    refine z_load X (x := u) (show cdA 285 175 = some (.iload 5, 2, 0, 0, 0) from rfl) (List.Mem.tail _ (List.Mem.tail _ (List.Mem.tail _ (List.Mem.tail _ (List.Mem.tail _ (List.Mem.head _)))))) ?_
                    refine z_aload_n X (x := A 179) (show cdA 285 177 = some (.aload_n 0, 1, 0, 0, 0) from rfl) (List.Mem.head _) ?_
                    refine z_load X (x := sv) (show cdA 285 178 = some (.iload 6, 2, 0, 0, 0) from rfl) (List.Mem.tail _ (List.Mem.tail _ (List.Mem.tail _ (List.Mem.tail _ (List.Mem.tail _ (List.Mem.tail _ (List.Mem.head _))))))) ?_
                    refine z_load X (x := mm) (show cdA 285 180 = some (.iload 7, 2, 0, 0, 0) from rfl) (List.Mem.tail _ (List.Mem.tail _ (List.Mem.tail _ (List.Mem.tail _ (List.Mem.tail _ (List.Mem.tail _ (List.Mem.tail _ (List.Mem.head _)))))))) ?_
                    refine z_load_n X (x := y) (show cdA 285 182 = some (.iload_n 2, 1, 0, 0, 0) from rfl) (List.Mem.tail _ (List.Mem.tail _ (List.Mem.head _))) ?_
                    have hrn : iC s2020 403 (sv : Int).toNat = iC t 403 (sv : Int).toNat := by rw [hs2020]; exact iC_a (by decide)
                    refine z_callV X 179 (rm := rmN 282) (As := [.int (Int32.ofInt sv), .int (Int32.ofInt mm), .int (Int32.ofInt y)]) (st := [.int (Int32.ofInt u), .int (Int32.ofInt w), .int (Int32.ofInt (z - 1)), .int (Int32.ofInt y), .int (Int32.ofInt (x + 1)), .ref (A 179)]) (show cdA 285 183 = some (.invokevirtual 443, 3, 282, 0, 0) from rfl) rfl (by decide) rfl (by rw [E.1, E.2.1, E.2.2.1]; exact k_minutes9 G Is2020 JMDJ_s2020 (by first | exact ⟨hi.2.2.2.2.2.2.2.2.1.2.1, by first | (clear g2022 g2019 g2018 g2006; omega) | (clear g2019 g2018 g2006; omega) | omega⟩ | omega) (by first | exact ⟨hi.2.2.2.2.2.2.2.2.2.1, oq_783454c6 g2021⟩ | omega) (by first | exact ⟨hi.2.2.1.1, hi.2.2.1.2⟩ | omega) (by first | exact ⟨oq_e4757433 hrn hRb.1, oq_74332778 hrn hRb.2⟩ | omega)) ⟨by rw [E.2.2.2]; exact (show 8 + 1 ≤ (12 + (52 + (r + 1))) from oq_edd5f4e9 r), by rw [E.2.2.2]; exact (show 8 + (5 + 11) + 146 ≤ (500 + 45 * (52 + (r + 1))) from oq_2709c6fe r), by rw [E.2.2.2]; exact Nat.le_refl 0, by rw [E.2.2.2]; exact Nat.le_refl 0⟩ (Nat.le_of_ble_eq_true rfl) (fun vv s2023 hq => ?_) (fun ee s2023 hq => ?_)
                    rotate_left
                    · obtain ⟨Is2023, Fs2023, e2024, hv, hrs2023, hps2023⟩ := hq; cases hv
                    obtain ⟨Is2023, Fs2023, e2024, hv, hrs2023, hps2023⟩ := hq
                    have hps2023p := hps2023.1
                    cases hv
                    have Gs2023 := fm_ts Fs2020 Fs2023 (by decide) (by decide)
                    have JRLx_s2023 : RLx s2023 := RLx_fm Fs2023 (by decide) JRLx_s2020
                    have JMDJ_s2023 : MDJ U s2023 := MDJ_fm Fs2023 (by decide) JMDJ_s2020
                    have JGTJ_s2023 : GTJ U S qn ft s2023 := GTJ_fm Fs2023 (by decide) JGTJ_s2020
                    have JMZJ_s2023 : MZJ U (hitP U S qn) s2023 := MZJ_fm Fs2023 (by decide) hMZ
                    have ws2023_105 : iI s2023 105 = iI s2020 105 := fm_i Fs2023 (by decide)
                    have ws2023_106 : iI s2023 106 = iI s2020 106 := fm_i Fs2023 (by decide)
                    have ws2023_89 : iI s2023 89 = iI s2020 89 := fm_i Fs2023 (by decide)
                    have ws2023_90 : iI s2023 90 = iI s2020 90 := fm_i Fs2023 (by decide)
                    show WS k 186 [(0, .ref (A 179)), (1, .int (Int32.ofInt x)), (2, .int (Int32.ofInt y)), (3, .int (Int32.ofInt z)), (4, .int (Int32.ofInt w)), (5, .int (Int32.ofInt u)), (6, .int (Int32.ofInt sv)), (7, .int (Int32.ofInt mm))] [.int (Int32.ofInt e2024), .int (Int32.ofInt u), .int (Int32.ofInt w), .int (Int32.ofInt (z - 1)), .int (Int32.ofInt y), .int (Int32.ofInt (x + 1)), .ref (A 179)] (Wd A dT s2023) 0 0
                    have hmb := hps2023.1
                    refine z_add X (show cdA 285 186 = some (.iadd, 1, 0, 0, 0) from rfl) ?_
                    refine z_callV X 179 (rm := (rkR (52 + (r)))) (As := [.int (Int32.ofInt (x + 1)), .int (Int32.ofInt y), .int (Int32.ofInt (z - 1)), .int (Int32.ofInt w), .int (Int32.ofInt (u + e2024))]) (st := []) (show cdA 285 187 = some (.invokevirtual 447, 3, 285, 0, 0) from rfl) rfl (by decide) rfl (by rw [E.1, E.2.1, E.2.2.1]; exact hR Is2023 JRLx_s2023 JMDJ_s2023 JGTJ_s2023 JMZJ_s2023 (by first | exact ⟨oq_54f49eb5 hi.1.1, oq_11bbe77e ws2023_105 hi.1.2 ws2020_105 hi.2.2.2.2.2.2.1⟩ | omega) (by first | exact oq_7e901d26 p1 ws2023_105 ws2020_105 hi.2.2.2.2.2.2.1 | omega) (by first | exact oq_e14d47df ws2023_105 ws2020_105 hi.2.2.2.2.2.2.1 hi.2.1 | omega) (by first | exact p3 | omega) (by first | exact ⟨hi.2.2.1.1, hi.2.2.1.2⟩ | omega) (by first | exact ⟨oq_8af9d5df g2018 hi.2.2.2.1.1, oq_d7fe5c3c hi.2.2.2.1.2⟩ | omega) (by first | exact ⟨hi.2.2.2.2.1.1, hi.2.2.2.2.1.2⟩ | omega) (by first | (clear hps2023 g2022 g2019 g2018 g2006; omega) | (clear g2022 g2019 g2018 g2006; omega) | omega) ((gtp_fm Fs2023 (by decide) hGP))) ⟨by rw [E.2.2.2]; exact (show (12 + (52 + (r))) + 1 ≤ (12 + (52 + (r + 1))) from oq_c268f935 r), by rw [E.2.2.2]; exact (show 8 + (8 + 11) + (500 + 45 * (52 + (r))) ≤ (500 + 45 * (52 + (r + 1))) from oq_488e467a r), by rw [E.2.2.2]; exact Nat.le_refl 0, by rw [E.2.2.2]; exact Nat.le_refl 0⟩ (Nat.le_of_ble_eq_true rfl) (fun vv s2025 hq => ?_) (fun ee s2025 hq => ?_)
                    rotate_left
                    · obtain ⟨Is2025, Fs2025, JRLx_s2025, JMZJ_s2025, hv, hps2025⟩ := hq; cases hv
                    obtain ⟨Is2025, Fs2025, JRLx_s2025, JMZJ_s2025, hv, hps2025⟩ := hq
                    cases hv
                    have Gs2025 := fm_ts Gs2023 Fs2025 (by decide) (by decide)
                    have JRLx_s2025 : RLx s2025 := RLx_fm Fs2025 (by decide) JRLx_s2023
                    have JMDJ_s2025 : MDJ U s2025 := MDJ_fm Fs2025 (by decide) JMDJ_s2023
                    have JGTJ_s2025 : GTJ U S qn ft s2025 := GTJ_fm Fs2025 (by decide) JGTJ_s2023
                    have ws2025_105 : iI s2025 105 = iI s2023 105 := fm_i Fs2025 (by decide)
                    have b2027 : ((-2147483648) : Int) ≤ iI s2025 106 ∧ iI s2025 106 ≤ 2147483647 := Is2025.1 106
                    have ws2025_89 : iI s2025 89 = iI s2023 89 := fm_i Fs2025 (by decide)
                    have ws2025_90 : iI s2025 90 = iI s2023 90 := fm_i Fs2025 (by decide)
                    show WS k 190 [(0, .ref (A 179)), (1, .int (Int32.ofInt x)), (2, .int (Int32.ofInt y)), (3, .int (Int32.ofInt z)), (4, .int (Int32.ofInt w)), (5, .int (Int32.ofInt u)), (6, .int (Int32.ofInt sv)), (7, .int (Int32.ofInt mm))] [] (Wd A dT s2025) 0 0
                    refine z_inc X (x := mm) (lv' := [(7, .int (Int32.ofInt (mm + 1))), (0, .ref (A 179)), (1, .int (Int32.ofInt x)), (2, .int (Int32.ofInt y)), (3, .int (Int32.ofInt z)), (4, .int (Int32.ofInt w)), (5, .int (Int32.ofInt u)), (6, .int (Int32.ofInt sv))]) (show cdA 285 190 = some (.iinc 7 1, 3, 0, 0, 0) from rfl) (by decide) (List.Mem.tail _ (List.Mem.tail _ (List.Mem.tail _ (List.Mem.tail _ (List.Mem.tail _ (List.Mem.tail _ (List.Mem.tail _ (List.Mem.head _)))))))) (fun _ h => h) ?_
                    refine z_goto X (t := 87) (show cdA 285 193 = some (.goto (-106), 3, 0, 0, 0) from rfl) (by decide) ?_
                    refine WS_lv (lv := [(0, .ref (A 179)), (1, .int (Int32.ofInt x)), (2, .int (Int32.ofInt y)), (3, .int (Int32.ofInt z)), (4, .int (Int32.ofInt w)), (5, .int (Int32.ofInt u)), (6, .int (Int32.ofInt sv)), (7, .int (Int32.ofInt (mm + 1)))]) (List.forall_mem_cons.mpr ⟨(List.Mem.tail _ (List.Mem.head _)), (List.forall_mem_cons.mpr ⟨(List.Mem.tail _ (List.Mem.tail _ (List.Mem.head _))), (List.forall_mem_cons.mpr ⟨(List.Mem.tail _ (List.Mem.tail _ (List.Mem.tail _ (List.Mem.head _)))), (List.forall_mem_cons.mpr ⟨(List.Mem.tail _ (List.Mem.tail _ (List.Mem.tail _ (List.Mem.tail _ (List.Mem.head _))))), (List.forall_mem_cons.mpr ⟨(List.Mem.tail _ (List.Mem.tail _ (List.Mem.tail _ (List.Mem.tail _ (List.Mem.tail _ (List.Mem.head _)))))), (List.forall_mem_cons.mpr ⟨(List.Mem.tail _ (List.Mem.tail _ (List.Mem.tail _ (List.Mem.tail _ (List.Mem.tail _ (List.Mem.tail _ (List.Mem.head _))))))), (List.forall_mem_cons.mpr ⟨(List.Mem.tail _ (List.Mem.tail _ (List.Mem.tail _ (List.Mem.tail _ (List.Mem.tail _ (List.Mem.tail _ (List.Mem.tail _ (List.Mem.head _)))))))), (List.forall_mem_cons.mpr ⟨(List.Mem.head _), (fun q h => absurd h List.not_mem_nil)⟩)⟩)⟩)⟩)⟩)⟩)⟩)⟩) ?_
                    have hev : e2024 = 15 * hmoS U S qn (x : Int).toNat := by rw [hhm]; have zz := hps2023.2; rw [hyq] at zz; rcases zz with zz | zz | zz; (· exact absurd zz.1 (by first | (clear hps2023 g2022 g2019 g2018 g2006; omega) | (clear g2022 g2019 g2018 g2006; omega) | omega)); (· exact zz.2); (· exact absurd zz.1 (by first | (clear hps2023 g2022 g2019 g2018 g2006; omega) | (clear g2022 g2019 g2018 g2006; omega) | omega))
                    have hgg0 : GTQ U S qn ft (gtB (hmoS U S qn) (hrdS U S qn) ft (cHt (hitP U S qn) (uN U)) (mdM s) (x : Int).toNat u z w B mm) (x + 1) (u + 15 * hmoS U S qn (x : Int).toNat) (z - 1) w s2023 s2025 := by have zz := hps2025; rw [hev] at zz; exact zz
                    have hgg := gtq_s (b := s2020) (fun j => mdm_fm Fs2023 (by decide) j) hgg0
                    exact ih _ sv (mm + 1) Is2025 Gs2025 JRLx_s2025 JMDJ_s2025 JGTJ_s2025 JMZJ_s2025 (by rw [show mm + 1 = 3 by first | (clear hps2023 g2022 g2019 g2018 g2006; omega) | (clear g2022 g2019 g2018 g2006; omega) | omega, gtb_2 (show 0 < z by first | (clear hps2023 g2022 g2019 g2018 g2006; omega) | (clear g2022 g2019 g2018 g2006; omega) | omega)]; have zz := tsm_call (m := mm) jjGTJ hq (by first | (clear hps2023 g2022 g2019 g2018 g2006; omega) | (clear g2022 g2019 g2018 g2006; omega) | omega) (by first | (clear hps2023 g2022 g2019 g2018 g2006; omega) | (clear g2022 g2019 g2018 g2006; omega) | omega) hU9 hgg; rw [show mm = 2 by first | (clear hps2023 g2022 g2019 g2018 g2006; omega) | (clear g2022 g2019 g2018 g2006; omega) | omega] at zz; exact zz) (by first | exact ⟨And.intro (hi.1.1) (hi.1.2), hi.2.1, And.intro (hi.2.2.1.1) (hi.2.2.1.2), And.intro (hi.2.2.2.1.1) (hi.2.2.2.1.2), And.intro (hi.2.2.2.2.1.1) (hi.2.2.2.2.1.2), And.intro (hi.2.2.2.2.2.1.1) (hi.2.2.2.2.2.1.2), oq_ac0e91e1 ws2025_105 ws2023_105 ws2020_105 hi.2.2.2.2.2.2.1, oq_45b593e3 ws2025_90 hi.2.2.2.2.2.2.2.1 ws2023_90 ws2020_90, And.intro (hi.2.2.2.2.2.2.2.2.1.1) (And.intro (hi.2.2.2.2.2.2.2.2.1.2.1) (hi.2.2.2.2.2.2.2.2.1.2.2)), oq_af66aac3 g2021, oq_8a625f99 g2021⟩ | omega) (by first | exact qk_me hm (by decide) (oq_07728ffc g2021) | omega) kx
                  ·
                    exfalso
                    omega
              ·
                exfalso
                omega
        ·
          refine z_aload_n X (x := A 179) (show cdA 285 99 = some (.aload_n 0, 1, 0, 0, 0) from rfl) (List.Mem.head _) ?_
          refine s_getR X 179 (show cdA 285 100 = some (.getfield 151, 3, 12, 71, 0) from rfl) (by decide) rfl rfl ?_
          refine z_load X (x := sv) (show cdA 285 103 = some (.iload 6, 2, 0, 0, 0) from rfl) (List.Mem.tail _ (List.Mem.tail _ (List.Mem.tail _ (List.Mem.tail _ (List.Mem.tail _ (List.Mem.tail _ (List.Mem.head _))))))) ?_
          refine z_ald X 458 (show cdA 285 105 = some (.iaload, 1, 0, 0, 0) from rfl) (by decide) rfl (by first | exact hi.2.2.2.2.2.2.2.2.1.2.1 | omega) (show sv < 12 by first | exact oq_0ddfcfee hi.2.2.2.2.2.2.2.2.1.2.2 | omega) (by decide) ?_
          have b2028 : (0 : Int) ≤ iC t 403 (sv).toNat ∧ iC t 403 (sv).toNat ≤ 24 := I.2 403 _ (show (sv).toNat < 12 by first | exact oq_9c5fa447 hi.2.2.2.2.2.2.2.2.1.2.2 | omega)
          refine z_if_eq X (t := 190) (show cdA 285 106 = some (.ifCond .eq 84, 3, 0, 0, 0) from rfl) (by decide) (rng_to _) (fun g2029 => ?_) (fun g2029 => ?_)
          ·
            refine z_inc X (x := mm) (lv' := [(7, .int (Int32.ofInt (mm + 1))), (0, .ref (A 179)), (1, .int (Int32.ofInt x)), (2, .int (Int32.ofInt y)), (3, .int (Int32.ofInt z)), (4, .int (Int32.ofInt w)), (5, .int (Int32.ofInt u)), (6, .int (Int32.ofInt sv))]) (show cdA 285 190 = some (.iinc 7 1, 3, 0, 0, 0) from rfl) (by decide) (List.Mem.tail _ (List.Mem.tail _ (List.Mem.tail _ (List.Mem.tail _ (List.Mem.tail _ (List.Mem.tail _ (List.Mem.tail _ (List.Mem.head _)))))))) (fun _ h => h) ?_
            refine z_goto X (t := 87) (show cdA 285 193 = some (.goto (-106), 3, 0, 0, 0) from rfl) (by decide) ?_
            refine WS_lv (lv := [(0, .ref (A 179)), (1, .int (Int32.ofInt x)), (2, .int (Int32.ofInt y)), (3, .int (Int32.ofInt z)), (4, .int (Int32.ofInt w)), (5, .int (Int32.ofInt u)), (6, .int (Int32.ofInt sv)), (7, .int (Int32.ofInt (mm + 1)))]) (List.forall_mem_cons.mpr ⟨(List.Mem.tail _ (List.Mem.head _)), (List.forall_mem_cons.mpr ⟨(List.Mem.tail _ (List.Mem.tail _ (List.Mem.head _))), (List.forall_mem_cons.mpr ⟨(List.Mem.tail _ (List.Mem.tail _ (List.Mem.tail _ (List.Mem.head _)))), (List.forall_mem_cons.mpr ⟨(List.Mem.tail _ (List.Mem.tail _ (List.Mem.tail _ (List.Mem.tail _ (List.Mem.head _))))), (List.forall_mem_cons.mpr ⟨(List.Mem.tail _ (List.Mem.tail _ (List.Mem.tail _ (List.Mem.tail _ (List.Mem.tail _ (List.Mem.head _)))))), (List.forall_mem_cons.mpr ⟨(List.Mem.tail _ (List.Mem.tail _ (List.Mem.tail _ (List.Mem.tail _ (List.Mem.tail _ (List.Mem.tail _ (List.Mem.head _))))))), (List.forall_mem_cons.mpr ⟨(List.Mem.tail _ (List.Mem.tail _ (List.Mem.tail _ (List.Mem.tail _ (List.Mem.tail _ (List.Mem.tail _ (List.Mem.tail _ (List.Mem.head _)))))))), (List.forall_mem_cons.mpr ⟨(List.Mem.head _), (fun q h => absurd h List.not_mem_nil)⟩)⟩)⟩)⟩)⟩)⟩)⟩)⟩) ?_
            exact ih _ sv (mm + 1) I F jjRLx jjMDJ jjGTJ jjMZJ (by rw [show mm + 1 = 2 by omega, gtb_1n (fun w => w ((hrd_z jjGTJ (x := (x : Int).toNat) (by have := jjGTJ.1.1.1; omega) (fun b hb => (jjGTJ.2.2.2.1.2.2 b hb).1)).1.mp (by rw [← (show sv = iC t 400 (x : Int).toNat by have zz : iC t 400 (x : Int).toNat = iC s 400 (x : Int).toNat := fm_c F (by decide); omega)]; omega)))]; have zz := hq; rw [show mm = 1 by omega] at zz; exact zz) (by first | exact ⟨And.intro (hi.1.1) (hi.1.2), hi.2.1, And.intro (hi.2.2.1.1) (hi.2.2.1.2), And.intro (hi.2.2.2.1.1) (hi.2.2.2.1.2), And.intro (hi.2.2.2.2.1.1) (hi.2.2.2.2.1.2), And.intro (hi.2.2.2.2.2.1.1) (hi.2.2.2.2.2.1.2), hi.2.2.2.2.2.2.1, hi.2.2.2.2.2.2.2.1, And.intro (hi.2.2.2.2.2.2.2.2.1.1) (And.intro (hi.2.2.2.2.2.2.2.2.1.2.1) (hi.2.2.2.2.2.2.2.2.1.2.2)), oq_82935c17 g2006, oq_0a5951b8 g2006⟩ | omega) (by first | exact qk_me hm (by decide) (oq_6b61a495 g2006) | omega) kx
          ·
            refine z_load X (x := mm) (show cdA 285 109 = some (.iload 7, 2, 0, 0, 0) from rfl) (List.Mem.tail _ (List.Mem.tail _ (List.Mem.tail _ (List.Mem.tail _ (List.Mem.tail _ (List.Mem.tail _ (List.Mem.tail _ (List.Mem.head _)))))))) ?_
            refine z_const X (show cdA 285 111 = some (.iconst 2, 1, 0, 0, 0) from rfl) ?_
            refine z_icmp_ne X (t := 119) (show cdA 285 112 = some (.if_icmp .ne 7, 3, 1, 0, 0) from rfl) (by decide) ⟨by first | exact oq_c4d5fd5b g2006 | omega, by first | exact oq_9b80f9a5 g2006 | omega⟩ (by decide) (fun g2030 => ?_) (fun g2030 => ?_)
            ·
              refine z_load X (x := mm) (show cdA 285 119 = some (.iload 7, 2, 0, 0, 0) from rfl) (List.Mem.tail _ (List.Mem.tail _ (List.Mem.tail _ (List.Mem.tail _ (List.Mem.tail _ (List.Mem.tail _ (List.Mem.tail _ (List.Mem.head _)))))))) ?_
              refine z_const X (show cdA 285 121 = some (.iconst 3, 1, 0, 0, 0) from rfl) ?_
              refine z_icmp_ne X (t := 133) (show cdA 285 122 = some (.if_icmp .ne 11, 3, 1, 0, 0) from rfl) (by decide) ⟨by first | exact oq_c4d5fd5b g2006 | omega, by first | exact oq_9b80f9a5 g2006 | omega⟩ (by decide) (fun g2031 => ?_) (fun g2031 => ?_)
              ·
                have esv : sv = iC t 400 (x : Int).toNat := by have zz : iC t 400 (x : Int).toNat = iC s 400 (x : Int).toNat := fm_c F (by decide); omega
                have hga := gtj_at jjGTJ (j := (x : Int).toNat) (by have := jjGTJ.1.1.1; omega)
                have hgz := hga.1
                have hgb := hga.2.1
                have hdn := jjMDJ.1.1
                have hG1 := jjGTJ.1.1.1
                have hhz := hrd_z jjGTJ (x := (x : Int).toNat) (by first | (clear g2031 g2030 g2029; omega) | (clear g2030 g2029; omega) | omega) (fun b hb => (jjGTJ.2.2.2.1.2.2 b hb).1)
                rw [← esv] at hhz
                have hhm := hmo_at jjGTJ (x := (x : Int).toNat) (by first | (clear g2031 g2030 g2029; omega) | (clear g2030 g2029; omega) | omega)
                rw [← esv] at hhm
                have hRr := jjGTJ.2.1 _ hgb hga.2.2.1
                have hRb : 0 ≤ iC t 403 (sv : Int).toNat ∧ iC t 403 (sv : Int).toNat ≤ 24 := by rw [show (sv : Int).toNat = hAt (hitP U S qn) (x : Int).toNat by first | (clear g2031 g2030 g2029; omega) | (clear g2030 g2029; omega) | omega]; exact hRr.elim (fun zz => by rw [zz.1]; decide) (fun zz => by have := zz.1; omega)
                refine z_aload_n X (x := A 179) (show cdA 285 133 = some (.aload_n 0, 1, 0, 0, 0) from rfl) (List.Mem.head _) ?_
                refine s_getR X 179 (show cdA 285 134 = some (.getfield 145, 3, 12, 69, 0) from rfl) (by decide) rfl rfl ?_
                refine z_load X (x := sv) (show cdA 285 137 = some (.iload 6, 2, 0, 0, 0) from rfl) (List.Mem.tail _ (List.Mem.tail _ (List.Mem.tail _ (List.Mem.tail _ (List.Mem.tail _ (List.Mem.tail _ (List.Mem.head _))))))) ?_
                refine z_load X (x := mm) (show cdA 285 139 = some (.iload 7, 2, 0, 0, 0) from rfl) (List.Mem.tail _ (List.Mem.tail _ (List.Mem.tail _ (List.Mem.tail _ (List.Mem.tail _ (List.Mem.tail _ (List.Mem.tail _ (List.Mem.head _)))))))) ?_
                refine z_ast X 456 (show cdA 285 141 = some (.iastore, 1, 0, 0, 0) from rfl) (by decide) rfl (by first | exact hi.2.2.2.2.2.2.2.2.1.2.1 | omega) (show sv < 12 by first | exact oq_0ddfcfee hi.2.2.2.2.2.2.2.2.1.2.2 | omega) (by decide) ?_
                obtain ⟨s2032, hs2032⟩ : ∃ x0, x0 = uC t 401 (sv).toNat (Int32.ofInt mm) := ⟨_, rfl⟩
                rw [← hs2032]
                have Is2032 : Bd s2032 := by rw [hs2032]; exact bd_C I (show (0 : Int) ≤ mm ∧ mm ≤ 3 by first | exact ⟨oq_a1cdbcd8 g2006, oq_c7e375ff g2006⟩ | omega) ⟨by first | exact oq_c4d5fd5b g2006 | omega, by first | exact oq_9b80f9a5 g2006 | omega⟩
                have Fs2032 := fm_C (i := (sv).toNat) (x := Int32.ofInt mm) F (show 401 ∈ _ by decide)
                rw [← hs2032] at Fs2032
                have ws2032_105 : iI s2032 105 = iI t 105 := by rw [hs2032]; rfl
                have ws2032_106 : iI s2032 106 = iI t 106 := by rw [hs2032]; rfl
                have ws2032_89 : iI s2032 89 = iI t 89 := by rw [hs2032]; rfl
                have ws2032_90 : iI s2032 90 = iI t 90 := by rw [hs2032]; rfl
                have fs2032 : Fm [] [401] t s2032 := by rw [hs2032]; exact fm_C (fm_rf _ _ _) (show 401 ∈ _ by decide)
                have JRLx_s2032 : RLx s2032 := RLx_fm fs2032 (by decide) jjRLx
                have JMDJ_s2032 : MDJ U s2032 := MDJ_fm fs2032 (by decide) jjMDJ
                have JGTJ_s2032 : GTJ U S qn ft s2032 := GTJ_fm fs2032 (by decide) jjGTJ
                have hU9 : s2032 = uC t 401 (iC t 400 (x : Int).toNat).toNat (Int32.ofInt mm) := by rw [← esv]; exact hs2032
                have hMZ : MZJ U (hitP U S qn) s2032 := mzj_u jjGTJ (by first | (clear g2031 g2030 g2029; omega) | (clear g2030 g2029; omega) | omega) jjMZJ hU9
                have hGP : GTP U (hitP U S qn) (gtB (hmoS U S qn) (hrdS U S qn) ft (cHt (hitP U S qn) (uN U)) (mdM s) (x : Int).toNat u z w B mm) (x + 1) s2032 := gtp_in jjGTJ p8 hq (fun i => fm_c F (by decide)) (fun i => fm_c F (by decide)) (by first | (clear g2031 g2030 g2029; omega) | (clear g2030 g2029; omega) | omega) (by first | (clear g2031 g2030 g2029; omega) | (clear g2030 g2029; omega) | omega) hU9 (fun _ => by rw [← esv]; omega)
                refine z_aload_n X (x := A 179) (show cdA 285 142 = some (.aload_n 0, 1, 0, 0, 0) from rfl) (List.Mem.head _) ?_
                refine z_load_n X (x := x) (show cdA 285 143 = some (.iload_n 1, 1, 0, 0, 0) from rfl) (List.Mem.tail _ (List.Mem.head _)) ?_
                refine z_const X (show cdA 285 144 = some (.iconst 1, 1, 0, 0, 0) from rfl) ?_
                refine z_add X (show cdA 285 145 = some (.iadd, 1, 0, 0, 0) from rfl) ?_
                refine z_load_n X (x := y) (show cdA 285 146 = some (.iload_n 2, 1, 0, 0, 0) from rfl) (List.Mem.tail _ (List.Mem.tail _ (List.Mem.head _))) ?_
                refine z_load X (x := mm) (show cdA 285 147 = some (.iload 7, 2, 0, 0, 0) from rfl) (List.Mem.tail _ (List.Mem.tail _ (List.Mem.tail _ (List.Mem.tail _ (List.Mem.tail _ (List.Mem.tail _ (List.Mem.tail _ (List.Mem.head _)))))))) ?_
                refine z_const X (show cdA 285 149 = some (.iconst 2, 1, 0, 0, 0) from rfl) ?_
                refine z_icmp_ne X (t := 159) (show cdA 285 150 = some (.if_icmp .ne 9, 3, 1, 0, 0) from rfl) (by decide) ⟨by first | exact oq_c4d5fd5b g2006 | omega, by first | exact oq_9b80f9a5 g2006 | omega⟩ (by decide) (fun g2033 => ?_) (fun g2033 => ?_)
                ·
                  refine z_load_n X (x := z) (show cdA 285 159 = some (.iload_n 3, 1, 0, 0, 0) from rfl) (List.Mem.tail _ (List.Mem.tail _ (List.Mem.tail _ (List.Mem.head _)))) ?_
                  refine z_load X (x := mm) (show cdA 285 160 = some (.iload 7, 2, 0, 0, 0) from rfl) (List.Mem.tail _ (List.Mem.tail _ (List.Mem.tail _ (List.Mem.tail _ (List.Mem.tail _ (List.Mem.tail _ (List.Mem.tail _ (List.Mem.head _)))))))) ?_
                  refine z_const X (show cdA 285 162 = some (.iconst 3, 1, 0, 0, 0) from rfl) ?_
                  refine z_icmp_ne X (t := 173) (show cdA 285 163 = some (.if_icmp .ne 10, 3, 1, 0, 0) from rfl) (by decide) ⟨by first | exact oq_c4d5fd5b g2006 | omega, by first | exact oq_9b80f9a5 g2006 | omega⟩ (by decide) (fun g2034 => ?_) (fun g2034 => ?_)
                  ·
                    refine z_load X (x := w) (show cdA 285 173 = some (.iload 4, 2, 0, 0, 0) from rfl) (List.Mem.tail _ (List.Mem.tail _ (List.Mem.tail _ (List.Mem.tail _ (List.Mem.head _))))) ?_
                    refine z_load X (x := u) (show cdA 285 175 = some (.iload 5, 2, 0, 0, 0) from rfl) (List.Mem.tail _ (List.Mem.tail _ (List.Mem.tail _ (List.Mem.tail _ (List.Mem.tail _ (List.Mem.head _)))))) ?_
                    refine z_aload_n X (x := A 179) (show cdA 285 177 = some (.aload_n 0, 1, 0, 0, 0) from rfl) (List.Mem.head _) ?_
                    refine z_load X (x := sv) (show cdA 285 178 = some (.iload 6, 2, 0, 0, 0) from rfl) (List.Mem.tail _ (List.Mem.tail _ (List.Mem.tail _ (List.Mem.tail _ (List.Mem.tail _ (List.Mem.tail _ (List.Mem.head _))))))) ?_
                    refine z_load X (x := mm) (show cdA 285 180 = some (.iload 7, 2, 0, 0, 0) from rfl) (List.Mem.tail _ (List.Mem.tail _ (List.Mem.tail _ (List.Mem.tail _ (List.Mem.tail _ (List.Mem.tail _ (List.Mem.tail _ (List.Mem.head _)))))))) ?_
                    refine z_load_n X (x := y) (show cdA 285 182 = some (.iload_n 2, 1, 0, 0, 0) from rfl) (List.Mem.tail _ (List.Mem.tail _ (List.Mem.head _))) ?_
                    have hrn : iC s2032 403 (sv : Int).toNat = iC t 403 (sv : Int).toNat := by rw [hs2032]; exact iC_a (by decide)
                    refine z_callV X 179 (rm := rmN 282) (As := [.int (Int32.ofInt sv), .int (Int32.ofInt mm), .int (Int32.ofInt y)]) (st := [.int (Int32.ofInt u), .int (Int32.ofInt w), .int (Int32.ofInt z), .int (Int32.ofInt y), .int (Int32.ofInt (x + 1)), .ref (A 179)]) (show cdA 285 183 = some (.invokevirtual 443, 3, 282, 0, 0) from rfl) rfl (by decide) rfl (by rw [E.1, E.2.1, E.2.2.1]; exact k_minutes9 G Is2032 JMDJ_s2032 (by first | exact ⟨hi.2.2.2.2.2.2.2.2.1.2.1, by first | (clear g2034 g2033 g2031 g2030 g2029; omega) | (clear g2033 g2031 g2030 g2029; omega) | omega⟩ | omega) (by first | exact ⟨hi.2.2.2.2.2.2.2.2.2.1, oq_c7e375ff g2006⟩ | omega) (by first | exact ⟨hi.2.2.1.1, hi.2.2.1.2⟩ | omega) (by first | exact ⟨oq_e4757433 hrn hRb.1, oq_74332778 hrn hRb.2⟩ | omega)) ⟨by rw [E.2.2.2]; exact (show 8 + 1 ≤ (12 + (52 + (r + 1))) from oq_edd5f4e9 r), by rw [E.2.2.2]; exact (show 8 + (5 + 11) + 146 ≤ (500 + 45 * (52 + (r + 1))) from oq_2709c6fe r), by rw [E.2.2.2]; exact Nat.le_refl 0, by rw [E.2.2.2]; exact Nat.le_refl 0⟩ (Nat.le_of_ble_eq_true rfl) (fun vv s2035 hq => ?_) (fun ee s2035 hq => ?_)
                    rotate_left
                    · obtain ⟨Is2035, Fs2035, e2036, hv, hrs2035, hps2035⟩ := hq; cases hv
                    obtain ⟨Is2035, Fs2035, e2036, hv, hrs2035, hps2035⟩ := hq
                    have hps2035p := hps2035.1
                    cases hv
                    have Gs2035 := fm_ts Fs2032 Fs2035 (by decide) (by decide)
                    have JRLx_s2035 : RLx s2035 := RLx_fm Fs2035 (by decide) JRLx_s2032
                    have JMDJ_s2035 : MDJ U s2035 := MDJ_fm Fs2035 (by decide) JMDJ_s2032
                    have JGTJ_s2035 : GTJ U S qn ft s2035 := GTJ_fm Fs2035 (by decide) JGTJ_s2032
                    have JMZJ_s2035 : MZJ U (hitP U S qn) s2035 := MZJ_fm Fs2035 (by decide) hMZ
                    have ws2035_105 : iI s2035 105 = iI s2032 105 := fm_i Fs2035 (by decide)
                    have ws2035_106 : iI s2035 106 = iI s2032 106 := fm_i Fs2035 (by decide)
                    have ws2035_89 : iI s2035 89 = iI s2032 89 := fm_i Fs2035 (by decide)
                    have ws2035_90 : iI s2035 90 = iI s2032 90 := fm_i Fs2035 (by decide)
                    show WS k 186 [(0, .ref (A 179)), (1, .int (Int32.ofInt x)), (2, .int (Int32.ofInt y)), (3, .int (Int32.ofInt z)), (4, .int (Int32.ofInt w)), (5, .int (Int32.ofInt u)), (6, .int (Int32.ofInt sv)), (7, .int (Int32.ofInt mm))] [.int (Int32.ofInt e2036), .int (Int32.ofInt u), .int (Int32.ofInt w), .int (Int32.ofInt z), .int (Int32.ofInt y), .int (Int32.ofInt (x + 1)), .ref (A 179)] (Wd A dT s2035) 0 0
                    have hmb := hps2035.1
                    refine z_add X (show cdA 285 186 = some (.iadd, 1, 0, 0, 0) from rfl) ?_
                    refine z_callV X 179 (rm := (rkR (52 + (r)))) (As := [.int (Int32.ofInt (x + 1)), .int (Int32.ofInt y), .int (Int32.ofInt z), .int (Int32.ofInt w), .int (Int32.ofInt (u + e2036))]) (st := []) (show cdA 285 187 = some (.invokevirtual 447, 3, 285, 0, 0) from rfl) rfl (by decide) rfl (by rw [E.1, E.2.1, E.2.2.1]; exact hR Is2035 JRLx_s2035 JMDJ_s2035 JGTJ_s2035 JMZJ_s2035 (by first | exact ⟨oq_54f49eb5 hi.1.1, oq_11bbe77e ws2035_105 hi.1.2 ws2032_105 hi.2.2.2.2.2.2.1⟩ | omega) (by first | exact oq_7e901d26 p1 ws2035_105 ws2032_105 hi.2.2.2.2.2.2.1 | omega) (by first | exact oq_e14d47df ws2035_105 ws2032_105 hi.2.2.2.2.2.2.1 hi.2.1 | omega) (by first | exact p3 | omega) (by first | exact ⟨hi.2.2.1.1, hi.2.2.1.2⟩ | omega) (by first | exact ⟨hi.2.2.2.1.1, hi.2.2.2.1.2⟩ | omega) (by first | exact ⟨hi.2.2.2.2.1.1, hi.2.2.2.2.1.2⟩ | omega) (by first | (clear hps2035 g2034 g2033 g2031 g2030 g2029; omega) | (clear g2034 g2033 g2031 g2030 g2029; omega) | omega) ((gtp_fm Fs2035 (by decide) hGP))) ⟨by rw [E.2.2.2]; exact (show (12 + (52 + (r))) + 1 ≤ (12 + (52 + (r + 1))) from oq_c268f935 r), by rw [E.2.2.2]; exact (show 8 + (8 + 11) + (500 + 45 * (52 + (r))) ≤ (500 + 45 * (52 + (r + 1))) from oq_488e467a r), by rw [E.2.2.2]; exact Nat.le_refl 0, by rw [E.2.2.2]; exact Nat.le_refl 0⟩ (Nat.le_of_ble_eq_true rfl) (fun vv s2037 hq => ?_) (fun ee s2037 hq => ?_)
                    rotate_left
                    · obtain ⟨Is2037, Fs2037, JRLx_s2037, JMZJ_s2037, hv, hps2037⟩ := hq; cases hv
                    obtain ⟨Is2037, Fs2037, JRLx_s2037, JMZJ_s2037, hv, hps2037⟩ := hq
                    cases hv
                    have Gs2037 := fm_ts Gs2035 Fs2037 (by decide) (by decide)
                    have JRLx_s2037 : RLx s2037 := RLx_fm Fs2037 (by decide) JRLx_s2035
                    have JMDJ_s2037 : MDJ U s2037 := MDJ_fm Fs2037 (by decide) JMDJ_s2035
                    have JGTJ_s2037 : GTJ U S qn ft s2037 := GTJ_fm Fs2037 (by decide) JGTJ_s2035
                    have ws2037_105 : iI s2037 105 = iI s2035 105 := fm_i Fs2037 (by decide)
                    have b2039 : ((-2147483648) : Int) ≤ iI s2037 106 ∧ iI s2037 106 ≤ 2147483647 := Is2037.1 106
                    have ws2037_89 : iI s2037 89 = iI s2035 89 := fm_i Fs2037 (by decide)
                    have ws2037_90 : iI s2037 90 = iI s2035 90 := fm_i Fs2037 (by decide)
                    show WS k 190 [(0, .ref (A 179)), (1, .int (Int32.ofInt x)), (2, .int (Int32.ofInt y)), (3, .int (Int32.ofInt z)), (4, .int (Int32.ofInt w)), (5, .int (Int32.ofInt u)), (6, .int (Int32.ofInt sv)), (7, .int (Int32.ofInt mm))] [] (Wd A dT s2037) 0 0
                    refine z_inc X (x := mm) (lv' := [(7, .int (Int32.ofInt (mm + 1))), (0, .ref (A 179)), (1, .int (Int32.ofInt x)), (2, .int (Int32.ofInt y)), (3, .int (Int32.ofInt z)), (4, .int (Int32.ofInt w)), (5, .int (Int32.ofInt u)), (6, .int (Int32.ofInt sv))]) (show cdA 285 190 = some (.iinc 7 1, 3, 0, 0, 0) from rfl) (by decide) (List.Mem.tail _ (List.Mem.tail _ (List.Mem.tail _ (List.Mem.tail _ (List.Mem.tail _ (List.Mem.tail _ (List.Mem.tail _ (List.Mem.head _)))))))) (fun _ h => h) ?_
                    refine z_goto X (t := 87) (show cdA 285 193 = some (.goto (-106), 3, 0, 0, 0) from rfl) (by decide) ?_
                    refine WS_lv (lv := [(0, .ref (A 179)), (1, .int (Int32.ofInt x)), (2, .int (Int32.ofInt y)), (3, .int (Int32.ofInt z)), (4, .int (Int32.ofInt w)), (5, .int (Int32.ofInt u)), (6, .int (Int32.ofInt sv)), (7, .int (Int32.ofInt (mm + 1)))]) (List.forall_mem_cons.mpr ⟨(List.Mem.tail _ (List.Mem.head _)), (List.forall_mem_cons.mpr ⟨(List.Mem.tail _ (List.Mem.tail _ (List.Mem.head _))), (List.forall_mem_cons.mpr ⟨(List.Mem.tail _ (List.Mem.tail _ (List.Mem.tail _ (List.Mem.head _)))), (List.forall_mem_cons.mpr ⟨(List.Mem.tail _ (List.Mem.tail _ (List.Mem.tail _ (List.Mem.tail _ (List.Mem.head _))))), (List.forall_mem_cons.mpr ⟨(List.Mem.tail _ (List.Mem.tail _ (List.Mem.tail _ (List.Mem.tail _ (List.Mem.tail _ (List.Mem.head _)))))), (List.forall_mem_cons.mpr ⟨(List.Mem.tail _ (List.Mem.tail _ (List.Mem.tail _ (List.Mem.tail _ (List.Mem.tail _ (List.Mem.tail _ (List.Mem.head _))))))), (List.forall_mem_cons.mpr ⟨(List.Mem.tail _ (List.Mem.tail _ (List.Mem.tail _ (List.Mem.tail _ (List.Mem.tail _ (List.Mem.tail _ (List.Mem.tail _ (List.Mem.head _)))))))), (List.forall_mem_cons.mpr ⟨(List.Mem.head _), (fun q h => absurd h List.not_mem_nil)⟩)⟩)⟩)⟩)⟩)⟩)⟩)⟩) ?_
                    have hev : e2036 = hrdS U S qn (x : Int).toNat := by rw [hhz.2 (by first | (clear hps2035 g2034 g2033 g2031 g2030 g2029; omega) | (clear g2034 g2033 g2031 g2030 g2029; omega) | omega)]; have zz := hps2035.2; rw [hrn] at zz; rw [hyq] at zz; rcases zz with zz | zz | zz; (· exact zz.2); (· exact absurd zz.1 (by first | (clear hps2035 g2034 g2033 g2031 g2030 g2029; omega) | (clear g2034 g2033 g2031 g2030 g2029; omega) | omega)); (· exact absurd zz.1 (by first | (clear hps2035 g2034 g2033 g2031 g2030 g2029; omega) | (clear g2034 g2033 g2031 g2030 g2029; omega) | omega))
                    have hgg0 : GTQ U S qn ft (gtB (hmoS U S qn) (hrdS U S qn) ft (cHt (hitP U S qn) (uN U)) (mdM s) (x : Int).toNat u z w B mm) (x + 1) (u + hrdS U S qn (x : Int).toNat) z w s2035 s2037 := by have zz := hps2037; rw [hev] at zz; exact zz
                    have hgg := gtq_s (b := s2032) (fun j => mdm_fm Fs2035 (by decide) j) hgg0
                    exact ih _ sv (mm + 1) Is2037 Gs2037 JRLx_s2037 JMDJ_s2037 JGTJ_s2037 JMZJ_s2037 (by rw [show mm + 1 = 2 by first | (clear hps2035 g2034 g2033 g2031 g2030 g2029; omega) | (clear g2034 g2033 g2031 g2030 g2029; omega) | omega, gtb_1 (fun w => absurd (hhz.1.mpr w) (by first | (clear hps2035 g2034 g2033 g2031 g2030 g2029; omega) | (clear g2034 g2033 g2031 g2030 g2029; omega) | omega))]; have zz := tsm_call (m := mm) jjGTJ hq (by first | (clear hps2035 g2034 g2033 g2031 g2030 g2029; omega) | (clear g2034 g2033 g2031 g2030 g2029; omega) | omega) (by first | (clear hps2035 g2034 g2033 g2031 g2030 g2029; omega) | (clear g2034 g2033 g2031 g2030 g2029; omega) | omega) hU9 hgg; rw [show mm = 1 by first | (clear hps2035 g2034 g2033 g2031 g2030 g2029; omega) | (clear g2034 g2033 g2031 g2030 g2029; omega) | omega] at zz; exact zz) (by first | exact ⟨And.intro (hi.1.1) (hi.1.2), hi.2.1, And.intro (hi.2.2.1.1) (hi.2.2.1.2), And.intro (hi.2.2.2.1.1) (hi.2.2.2.1.2), And.intro (hi.2.2.2.2.1.1) (hi.2.2.2.2.1.2), And.intro (hi.2.2.2.2.2.1.1) (hi.2.2.2.2.2.1.2), oq_ac0e91e1 ws2037_105 ws2035_105 ws2032_105 hi.2.2.2.2.2.2.1, oq_45b593e3 ws2037_90 hi.2.2.2.2.2.2.2.1 ws2035_90 ws2032_90, And.intro (hi.2.2.2.2.2.2.2.2.1.1) (And.intro (hi.2.2.2.2.2.2.2.2.1.2.1) (hi.2.2.2.2.2.2.2.2.1.2.2)), oq_82935c17 g2006, oq_0a5951b8 g2006⟩ | omega) (by first | exact qk_me hm (by decide) (oq_6b61a495 g2006) | omega) kx
                  ·
                    exfalso
                    omega
                ·
                  exfalso
                  omega
              ·
                exfalso
                omega
            ·
              exfalso
              omega
  refine z_aload_n X (x := A 179) (show cdA 285 0 = some (.aload_n 0, 1, 0, 0, 0) from rfl) (List.Mem.head _) ?_
  refine z_getI X 179 (show cdA 285 1 = some (.getfield 434, 3, 12, 75, 0) from rfl) (by decide) rfl rfl ?_
  have b5 : ((-2147483648) : Int) ≤ iI s 106 ∧ iI s 106 ≤ 2147483647 := I.1 106
  refine z_const X (show cdA 285 4 = some (.iconst (-1), 1, 0, 0, 0) from rfl) ?_
  refine z_icmp_eq X (t := 18) (show cdA 285 5 = some (.if_icmp .eq 13, 3, 0, 0, 0) from rfl) (by decide) (rng_to _) (by decide) (fun g6 => ?_) (fun g6 => ?_)
  ·
    have hl : lsB B u := (bso9_l p8.1).mpr (by omega)
    have hg1 := jGTJ.1.1.1
    have hg2 := jGTJ.2.2.1
    have hg3 := jGTJ.2.2.2.1
    have hyq : (y : Int).toNat = qn := by omega
    refine z_load_n X (x := x) (show cdA 285 18 = some (.iload_n 1, 1, 0, 0, 0) from rfl) (List.Mem.tail _ (List.Mem.head _)) ?_
    refine z_aload_n X (x := A 179) (show cdA 285 19 = some (.aload_n 0, 1, 0, 0, 0) from rfl) (List.Mem.head _) ?_
    refine z_getI X 179 (show cdA 285 20 = some (.getfield 431, 3, 12, 74, 0) from rfl) (by decide) rfl rfl ?_
    have b7 : (0 : Int) ≤ iI s 105 ∧ iI s 105 ≤ 12 := I.1 105
    refine z_icmp_ne X (t := 76) (show cdA 285 23 = some (.if_icmp .ne 53, 3, 1, 0, 0) from rfl) (by decide) ⟨by first | exact oq_fa4e5087 p0.1 | omega, by first | exact oq_39d2cc6e p0.2 b7.2 | omega⟩ (rng_to _) (fun g8 => ?_) (fun g8 => ?_)
    ·
      refine z_aload_n X (x := A 179) (show cdA 285 76 = some (.aload_n 0, 1, 0, 0, 0) from rfl) (List.Mem.head _) ?_
      refine s_getR X 179 (show cdA 285 77 = some (.getfield 142, 3, 12, 68, 0) from rfl) (by decide) rfl rfl ?_
      refine z_load_n X (x := x) (show cdA 285 80 = some (.iload_n 1, 1, 0, 0, 0) from rfl) (List.Mem.tail _ (List.Mem.head _)) ?_
      refine z_ald X 455 (show cdA 285 81 = some (.iaload, 1, 0, 0, 0) from rfl) (by decide) rfl (by first | exact p0.1 | omega) (show x < 8 by first | exact oq_1fa780f7 g8 p2 p0.2 | omega) (by decide) ?_
      have b9 : (0 : Int) ≤ iC s 400 (x).toNat ∧ iC s 400 (x).toNat ≤ 11 := I.2 400 _ (show (x).toNat < 8 by first | exact oq_54c6e91f g8 p2 p0.2 | omega)
      refine z_store X (lv' := [(6, .int (Int32.ofInt (iC s 400 (x).toNat))), (0, .ref (A 179)), (1, .int (Int32.ofInt x)), (2, .int (Int32.ofInt y)), (3, .int (Int32.ofInt z)), (4, .int (Int32.ofInt w)), (5, .int (Int32.ofInt u))]) (show cdA 285 82 = some (.istore 6, 2, 0, 0, 0) from rfl) (by decide) (fun _ h => h) ?_
      refine z_const X (show cdA 285 84 = some (.iconst 1, 1, 0, 0, 0) from rfl) ?_
      refine z_store X (lv' := [(7, .int (Int32.ofInt 1)), (6, .int (Int32.ofInt (iC s 400 (x).toNat))), (0, .ref (A 179)), (1, .int (Int32.ofInt x)), (2, .int (Int32.ofInt y)), (3, .int (Int32.ofInt z)), (4, .int (Int32.ofInt w)), (5, .int (Int32.ofInt u))]) (show cdA 285 85 = some (.istore 7, 2, 0, 0, 0) from rfl) (by decide) (fun _ h => h) ?_
      refine WS_lv (lv := [(0, .ref (A 179)), (1, .int (Int32.ofInt x)), (2, .int (Int32.ofInt y)), (3, .int (Int32.ofInt z)), (4, .int (Int32.ofInt w)), (5, .int (Int32.ofInt u)), (6, .int (Int32.ofInt (iC s 400 (x).toNat))), (7, .int (Int32.ofInt 1))]) (List.forall_mem_cons.mpr ⟨(List.Mem.tail _ (List.Mem.tail _ (List.Mem.head _))), (List.forall_mem_cons.mpr ⟨(List.Mem.tail _ (List.Mem.tail _ (List.Mem.tail _ (List.Mem.head _)))), (List.forall_mem_cons.mpr ⟨(List.Mem.tail _ (List.Mem.tail _ (List.Mem.tail _ (List.Mem.tail _ (List.Mem.head _))))), (List.forall_mem_cons.mpr ⟨(List.Mem.tail _ (List.Mem.tail _ (List.Mem.tail _ (List.Mem.tail _ (List.Mem.tail _ (List.Mem.head _)))))), (List.forall_mem_cons.mpr ⟨(List.Mem.tail _ (List.Mem.tail _ (List.Mem.tail _ (List.Mem.tail _ (List.Mem.tail _ (List.Mem.tail _ (List.Mem.head _))))))), (List.forall_mem_cons.mpr ⟨(List.Mem.tail _ (List.Mem.tail _ (List.Mem.tail _ (List.Mem.tail _ (List.Mem.tail _ (List.Mem.tail _ (List.Mem.tail _ (List.Mem.head _)))))))), (List.forall_mem_cons.mpr ⟨(List.Mem.tail _ (List.Mem.head _)), (List.forall_mem_cons.mpr ⟨(List.Mem.head _), (fun q h => absurd h List.not_mem_nil)⟩)⟩)⟩)⟩)⟩)⟩)⟩)⟩) ?_
      refine L87 ((4 - 1 : Int).toNat + 1) s (iC s 400 (x).toNat) 1 I F jRLx jMDJ jGTJ jMZJ ⟨by rw [show gtB (hmoS U S qn) (hrdS U S qn) ft (cHt (hitP U S qn) (uN U)) (mdM s) (x : Int).toNat u z w B 1 = B from if_pos rfl]; exact p8.1, fun _ _ => rfl⟩ (by first | exact ⟨oq_0c00f521 g8 p7.2 p7.1 p0.2, p2, And.intro (p4.1) (p4.2), And.intro (p5.1) (p5.2), And.intro (p6.1) (p6.2), And.intro (p7.1) (p7.2), by decide, by decide, And.intro (by decide) (And.intro (b9.1) (b9.2)), by decide, by decide⟩ | omega) (Nat.lt_succ_self _) ?_
      intro s10 x11 Is10 Fs10 JRLx_s10 JMDJ_s10 JGTJ_s10 JMZJ_s10 Qs10 hs10
      have b12 : (0 : Int) ≤ iI s10 105 ∧ iI s10 105 ≤ 12 := Is10.1 105
      have b13 : ((-2147483648) : Int) ≤ iI s10 106 ∧ iI s10 106 ≤ 2147483647 := Is10.1 106
      have b14 : (1 : Int) ≤ iI s10 89 ∧ iI s10 89 ≤ 8 := Is10.1 89
      have b15 : (0 : Int) ≤ iI s10 90 ∧ iI s10 90 ≤ 12 := Is10.1 90
      refine z_aload_n X (x := A 179) (show cdA 285 196 = some (.aload_n 0, 1, 0, 0, 0) from rfl) (List.Mem.head _) ?_
      refine s_getR X 179 (show cdA 285 197 = some (.getfield 145, 3, 12, 69, 0) from rfl) (by decide) rfl rfl ?_
      refine z_load X (x := (iC s 400 (x).toNat)) (show cdA 285 200 = some (.iload 6, 2, 0, 0, 0) from rfl) (List.Mem.tail _ (List.Mem.tail _ (List.Mem.tail _ (List.Mem.tail _ (List.Mem.tail _ (List.Mem.tail _ (List.Mem.head _))))))) ?_
      refine z_const X (show cdA 285 202 = some (.iconst 0, 1, 0, 0, 0) from rfl) ?_
      refine z_ast X 456 (show cdA 285 203 = some (.iastore, 1, 0, 0, 0) from rfl) (by decide) rfl (by first | exact hs10.2.2.2.2.2.2.2.2.1.2.1 | omega) (show (iC s 400 (x).toNat) < 12 by first | exact oq_0ddfcfee hs10.2.2.2.2.2.2.2.2.1.2.2 | omega) (by decide) ?_
      obtain ⟨s16, hs16⟩ : ∃ x0, x0 = uC s10 401 ((iC s 400 (x).toNat)).toNat (Int32.ofInt 0) := ⟨_, rfl⟩
      rw [← hs16]
      have Is16 : Bd s16 := by rw [hs16]; exact bd_C Is10 (show (0 : Int) ≤ 0 ∧ 0 ≤ 3 by first | exact ⟨by decide, by decide⟩ | omega) (by decide)
      have Fs16 := fm_C (i := ((iC s 400 (x).toNat)).toNat) (x := Int32.ofInt 0) Fs10 (show 401 ∈ _ by decide)
      rw [← hs16] at Fs16
      have ws16_105 : iI s16 105 = iI s10 105 := by rw [hs16]; rfl
      have ws16_106 : iI s16 106 = iI s10 106 := by rw [hs16]; rfl
      have ws16_89 : iI s16 89 = iI s10 89 := by rw [hs16]; rfl
      have ws16_90 : iI s16 90 = iI s10 90 := by rw [hs16]; rfl
      have fs16 : Fm [] [401] s10 s16 := by rw [hs16]; exact fm_C (fm_rf _ _ _) (show 401 ∈ _ by decide)
      have JRLx_s16 : RLx s16 := RLx_fm fs16 (by decide) JRLx_s10
      have JMDJ_s16 : MDJ U s16 := MDJ_fm fs16 (by decide) JMDJ_s10
      have JGTJ_s16 : GTJ U S qn ft s16 := GTJ_fm fs16 (by decide) JGTJ_s10
      have hU0 : s16 = uC s10 401 (iC s10 400 (x : Int).toNat).toNat (Int32.ofInt 0) := by rw [show iC s10 400 (x : Int).toNat = (iC s 400 (x).toNat) by have zz : iC s10 400 (x : Int).toNat = iC s 400 (x : Int).toNat := fm_c Fs10 (by decide); omega]; exact hs16
      have hMZ : MZJ U (hitP U S qn) s16 := mzj_u JGTJ_s10 (by first | (clear g8; omega) | omega) JMZJ_s10 hU0
      have hTS : TSM U (hitP U S qn) (gtB (hmoS U S qn) (hrdS U S qn) ft (cHt (hitP U S qn) (uN U)) (mdM s) (x : Int).toNat u z w B 4) x s s16 := tsm_off JGTJ_s10 (by have zz := Qs10; rw [show x11 = 4 by first | (clear g8; omega) | omega] at zz; exact zz) (by first | (clear g8; omega) | omega) hU0
      exact w_vret X.1 q hRt (ax_d X (show cdA 285 204 = some (.return_, 1, 0, 0, 0) from rfl)) (Nat.zero_le _) (Nat.zero_le _) ⟨_, rfl, Is16, Fs16, JRLx_s16, hMZ, rfl, (by unfold GTQ; rw [gt_e (show (x : Int).toNat < (cHt (hitP U S qn) (uN U)) by first | (clear g8; omega) | omega) hl]; exact hTS)⟩
    ·
      have hHQ := gt_hmq jMDJ jGTJ p8 (by omega)
      have hWK := gt_wok (c := ((cHt (hitP U S qn) (uN U)) : Int)) jMDJ hHQ
      refine z_aload_n X (x := A 179) (show cdA 285 26 = some (.aload_n 0, 1, 0, 0, 0) from rfl) (List.Mem.head _) ?_
      refine z_load_n X (x := y) (show cdA 285 27 = some (.iload_n 2, 1, 0, 0, 0) from rfl) (List.Mem.tail _ (List.Mem.tail _ (List.Mem.head _))) ?_
      refine z_callV X 179 (rm := rmN 284) (As := [.int (Int32.ofInt y)]) (st := []) (show cdA 285 28 = some (.invokevirtual 437, 3, 284, 0, 0) from rfl) rfl (by decide) rfl (by rw [E.1, E.2.1, E.2.2.1]; exact k_asMended9 G I jRLx jMDJ (by first | exact ⟨p4.1, p4.2⟩ | omega) (hHQ)) ⟨by rw [E.2.2.2]; exact (show 10 + 1 ≤ (12 + (52 + (r + 1))) from oq_04dc1188 r), by rw [E.2.2.2]; exact (show 8 + (5 + 11) + 189 ≤ (500 + 45 * (52 + (r + 1))) from oq_bb8002ac r), by rw [E.2.2.2]; exact Nat.le_refl 0, by rw [E.2.2.2]; exact Nat.le_refl 0⟩ (Nat.le_of_ble_eq_true rfl) (fun vv s17 hq => ?_) (fun ee s17 hq => ?_)
      rotate_left
      · obtain ⟨Is17, Fs17, JRLx_s17, hv, hps17⟩ := hq; cases hv
      obtain ⟨Is17, Fs17, JRLx_s17, hv, hps17⟩ := hq
      cases hv
      have Gs17 := fm_ts F Fs17 (by decide) (by decide)
      have JRLx_s17 : RLx s17 := RLx_fm Fs17 (by decide) jRLx
      have JMDJ_s17 : MDJ U s17 := MDJ_fm Fs17 (by decide) jMDJ
      have JGTJ_s17 : GTJ U S qn ft s17 := GTJ_fm Fs17 (by decide) jGTJ
      have JMZJ_s17 : MZJ U (hitP U S qn) s17 := MZJ_fm Fs17 (by decide) jMZJ
      have ws17_105 : iI s17 105 = iI s 105 := fm_i Fs17 (by decide)
      have ws17_106 : iI s17 106 = iI s 106 := fm_i Fs17 (by decide)
      have ws17_89 : iI s17 89 = iI s 89 := fm_i Fs17 (by decide)
      have ws17_90 : iI s17 90 = iI s 90 := fm_i Fs17 (by decide)
      show WS k 31 [(0, .ref (A 179)), (1, .int (Int32.ofInt x)), (2, .int (Int32.ofInt y)), (3, .int (Int32.ofInt z)), (4, .int (Int32.ofInt w)), (5, .int (Int32.ofInt u))] [] (Wd A dT s17) 0 0
      have hst1 : iI s17 90 = iI s 90 := fm_i Fs17 (by decide)
      have hAE := am_e (by have zz := hps17; rw [hyq, hg1] at zz; exact zz) ⟨hst1.trans jMDJ.1.1, jMDJ.1.2⟩ hWK
      have hML : MDL (uC9 U (wyC U (PcH (hitP U S qn) ((cHt (hitP U S qn) (uN U)) : Int)) (MD9 s) (RW9 s))) s17 := gt_mdl jMDJ hst1 JMDJ_s17.2.2.2.2.2.2 hWK
      refine z_aload_n X (x := A 179) (show cdA 285 31 = some (.aload_n 0, 1, 0, 0, 0) from rfl) (List.Mem.head _) ?_
      refine z_callV X 179 (rm := rmN 283) (As := []) (st := []) (show cdA 285 32 = some (.invokevirtual 440, 3, 283, 0, 0) from rfl) rfl (by decide) rfl (by rw [E.1, E.2.1, E.2.2.1]; exact k_noneFull9 G Is17 hAE.1 hAE.2.1 hML hAE.2.2.1 hAE.2.2.2 (by omega)) ⟨by rw [E.2.2.2]; exact (show 37 + 1 ≤ (12 + (52 + (r + 1))) from oq_35b456ef r), by rw [E.2.2.2]; exact (show 8 + (2 + 11) + 1578 ≤ (500 + 45 * (52 + (r + 1))) from oq_14bb5664 r), by rw [E.2.2.2]; exact Nat.le_refl 0, by rw [E.2.2.2]; exact Nat.le_refl 0⟩ (Nat.le_of_ble_eq_true rfl) (fun vv s19 hq => ?_) (fun ee s19 hq => ?_)
      rotate_left
      · obtain ⟨Is19, Fs19, e20, hv, hrs19, hps19⟩ := hq; cases hv
      obtain ⟨Is19, Fs19, e20, hv, hrs19, hps19⟩ := hq
      cases hv
      have Gs19 := fm_ts Gs17 Fs19 (by decide) (by decide)
      have JRLx_s19 : RLx s19 := RLx_fm Fs19 (by decide) JRLx_s17
      have JMDJ_s19 : MDJ U s19 := MDJ_fm Fs19 (by decide) JMDJ_s17
      have JGTJ_s19 : GTJ U S qn ft s19 := GTJ_fm Fs19 (by decide) JGTJ_s17
      have JMZJ_s19 : MZJ U (hitP U S qn) s19 := MZJ_fm Fs19 (by decide) JMZJ_s17
      have JNW_s19 : NW s19 := NW_fm Fs19 (by decide) hAE.1
      have JNWL_s19 : NWL s19 := NWL_fm Fs19 (by decide) hAE.2.1
      have JNWE_s19 : NWE (uC9 U (wyC U (PcH (hitP U S qn) ((cHt (hitP U S qn) (uN U)) : Int)) (MD9 s) (RW9 s))) s19 := NWE_fm Fs19 (by decide) hAE.2.2.1
      have JNMQ_s19 : NMQ (moC U (PcH (hitP U S qn) ((cHt (hitP U S qn) (uN U)) : Int)) (MD9 s) qn) (uN U : Int) s19 := NMQ_fm Fs19 (by decide) hAE.2.2.2
      have JMDL_s19 : MDL (uC9 U (wyC U (PcH (hitP U S qn) ((cHt (hitP U S qn) (uN U)) : Int)) (MD9 s) (RW9 s))) s19 := MDL_fm Fs19 (by decide) hML
      have ws19_105 : iI s19 105 = iI s17 105 := fm_i Fs19 (by decide)
      have ws19_106 : iI s19 106 = iI s17 106 := fm_i Fs19 (by decide)
      have ws19_89 : iI s19 89 = iI s17 89 := fm_i Fs19 (by decide)
      have ws19_90 : iI s19 90 = iI s17 90 := fm_i Fs19 (by decide)
      show WS k 35 [(0, .ref (A 179)), (1, .int (Int32.ofInt x)), (2, .int (Int32.ofInt y)), (3, .int (Int32.ofInt z)), (4, .int (Int32.ofInt w)), (5, .int (Int32.ofInt u))] [.int (Int32.ofInt e20)] (Wd A dT s19) 0 0
      have hLF := lf_eq (f := pfM s) (lim := fun j => iC s 229 j) (by first | (clear hps19; omega) | omega) (gt_md jGTJ) (gt_rw jGTJ p8 (by first | (clear hps19; omega) | omega)) (fun b hb => (hg3.2.2 b hb).1)
      have hFF := hps19
      rw [show pfM s17 = pfM s from funext (fun j => fm_c Gs17 (by decide)), show (fun j => iC s17 229 j) = (fun j => iC s 229 j) from funext (fun j => fm_c Gs17 (by decide))] at hFF
      have hFT : ft (msI (mdM s) 1 (cHt (hitP U S qn) (uN U))) = fitK9 U S qn (pfM s) (fun j => iC s 229 j) (msI (mdM s) 1 (cHt (hitP U S qn) (uN U))) := congrFun jGTJ.2.2.2.2 _
      refine z_if_ne X (t := 39) (show cdA 285 35 = some (.ifCond .ne 4, 3, 1, 0, 0) from rfl) (by decide) hrs19 (fun g21 => ?_) (fun g21 => ?_)
      ·
        have hf : ft (msI (mdM s) 1 (cHt (hitP U S qn) (uN U))) := by rw [hFT]; exact hFF.elim (fun zz => hLF.mp zz.2) (fun zz => absurd zz.1 (by first | (clear g21 hps19; omega) | (clear hps19; omega) | omega))
        refine z_aload_n X (x := A 179) (show cdA 285 39 = some (.aload_n 0, 1, 0, 0, 0) from rfl) (List.Mem.head _) ?_
        refine z_load X (x := u) (show cdA 285 40 = some (.iload 5, 2, 0, 0, 0) from rfl) (List.Mem.tail _ (List.Mem.tail _ (List.Mem.tail _ (List.Mem.tail _ (List.Mem.tail _ (List.Mem.head _)))))) ?_
        refine s_putI X 179 (show cdA 285 42 = some (.putfield 434, 3, 12, 75, 0) from rfl) (by decide) rfl rfl (by decide) rfl rfl rfl ?_
        obtain ⟨s22, hs22⟩ : ∃ x0, x0 = uI s19 106 (Int32.ofInt u) := ⟨_, rfl⟩
        rw [← hs22]
        have Is22 : Bd s22 := by rw [hs22]; exact bd_I Is19 (show ((-2147483648) : Int) ≤ u ∧ u ≤ 2147483647 by first | exact ⟨oq_fa4e5087 p7.1, oq_fd118a2d p7.2 g8 b7.2⟩ | omega) ⟨by first | exact oq_fa4e5087 p7.1 | omega, by first | exact oq_fd118a2d p7.2 g8 b7.2 | omega⟩
        have Fs22 := fm_I (x := Int32.ofInt u) Gs19 (show 106 ∈ _ by decide)
        rw [← hs22] at Fs22
        have vs22 : iI s22 106 = u := by rw [hs22]; exact iI_u ⟨by first | exact oq_fa4e5087 p7.1 | omega, by first | exact oq_fd118a2d p7.2 g8 b7.2 | omega⟩
        have ws22_105 : iI s22 105 = iI s19 105 := by rw [hs22]; rfl
        have ws22_89 : iI s22 89 = iI s19 89 := by rw [hs22]; rfl
        have ws22_90 : iI s22 90 = iI s19 90 := by rw [hs22]; rfl
        have fs22 : Fm [106] [] s19 s22 := by rw [hs22]; exact fm_I (fm_rf _ _ _) (show 106 ∈ _ by decide)
        have JRLx_s22 : RLx s22 := RLx_fm fs22 (by decide) JRLx_s19
        have JMDJ_s22 : MDJ U s22 := MDJ_fm fs22 (by decide) JMDJ_s19
        have JGTJ_s22 : GTJ U S qn ft s22 := GTJ_fm fs22 (by decide) JGTJ_s19
        have JMZJ_s22 : MZJ U (hitP U S qn) s22 := MZJ_fm fs22 (by decide) JMZJ_s19
        refine z_const X (show cdA 285 45 = some (.iconst 0, 1, 0, 0, 0) from rfl) ?_
        refine z_store X (lv' := [(6, .int (Int32.ofInt 0)), (0, .ref (A 179)), (1, .int (Int32.ofInt x)), (2, .int (Int32.ofInt y)), (3, .int (Int32.ofInt z)), (4, .int (Int32.ofInt w)), (5, .int (Int32.ofInt u))]) (show cdA 285 46 = some (.istore 6, 2, 0, 0, 0) from rfl) (by decide) (fun _ h => h) ?_
        refine WS_lv (lv := [(0, .ref (A 179)), (6, .int (Int32.ofInt 0))]) (List.forall_mem_cons.mpr ⟨(List.Mem.tail _ (List.Mem.head _)), (List.forall_mem_cons.mpr ⟨(List.Mem.head _), (fun q h => absurd h List.not_mem_nil)⟩)⟩) ?_
        refine L48 ((12 - 0 : Int).toNat + 1) s22 0 Is22 Fs22 JRLx_s22 ⟨fun x _ h => absurd h (by first | (clear g21 hps19; omega) | (clear hps19; omega) | omega), fun i => (show iC s22 401 i = iC s19 401 i by rw [hs22]; rfl).trans ((fm_c Fs19 (by decide)).trans (fm_c Fs17 (by decide)))⟩ (by first | exact ⟨And.intro (by decide) (by decide), vs22⟩ | omega) (Nat.lt_succ_self _) ?_
        intro s23 x24 Is23 Fs23 JRLx_s23 Qs23 hs23
        have b25 : (0 : Int) ≤ iI s23 105 ∧ iI s23 105 ≤ 12 := Is23.1 105
        have b26 : ((-2147483648) : Int) ≤ iI s23 106 ∧ iI s23 106 ≤ 2147483647 := Is23.1 106
        have b27 : (1 : Int) ≤ iI s23 89 ∧ iI s23 89 ≤ 8 := Is23.1 89
        have b28 : (0 : Int) ≤ iI s23 90 ∧ iI s23 90 ≤ 12 := Is23.1 90
        have hMZ : MZJ U (hitP U S qn) s23 := fun b hb p => (Qs23.2 b).trans (jMZJ b hb p)
        exact w_vret X.1 q hRt (ax_d X (show cdA 285 75 = some (.return_, 1, 0, 0, 0) from rfl)) (Nat.zero_le _) (Nat.zero_le _) ⟨_, rfl, Is23, Fs23, JRLx_s23, hMZ, rfl, (gtq_1 jGTJ jMZJ p8 (by first | (clear g21 hps19; omega) | (clear hps19; omega) | omega) hf hl (by first | (clear g21 hps19; omega) | (clear hps19; omega) | omega) (by first | (clear g21 hps19; omega) | (clear hps19; omega) | omega) (fun x hx => Qs23.1 x hx (by first | (clear g21 hps19; omega) | (clear hps19; omega) | omega)) jMDJ.1.2 (fun i => by show iC s23 401 (iC s23 400 i).toNat = _; rw [Qs23.2, show iC s23 400 i = iC s 400 i from fm_c Fs23 (by decide)]))⟩
      ·
        exact w_vret X.1 q hRt (ax_d X (show cdA 285 38 = some (.return_, 1, 0, 0, 0) from rfl)) (Nat.zero_le _) (Nat.zero_le _) ⟨_, rfl, Is19, Gs19, JRLx_s19, JMZJ_s19, rfl, (gtq_0 jGTJ p8 (by first | (clear hps19; omega) | omega) (by rw [hFT]; exact hFF.elim (fun zz => absurd zz.1 (by first | (clear hps19; omega) | omega)) (fun zz w => zz.2 (hLF.mpr w))) (by first | (clear hps19; omega) | omega) (sam_ts (sam_fm Fs17 (by decide)) (sam_fm Fs19 (by decide))) (fun i => (mdm_fm Fs19 (by decide) i).trans (mdm_fm Fs17 (by decide) i)))⟩
  ·
    refine z_load X (x := u) (show cdA 285 8 = some (.iload 5, 2, 0, 0, 0) from rfl) (List.Mem.tail _ (List.Mem.tail _ (List.Mem.tail _ (List.Mem.tail _ (List.Mem.tail _ (List.Mem.head _)))))) ?_
    refine z_aload_n X (x := A 179) (show cdA 285 10 = some (.aload_n 0, 1, 0, 0, 0) from rfl) (List.Mem.head _) ?_
    refine z_getI X 179 (show cdA 285 11 = some (.getfield 434, 3, 12, 75, 0) from rfl) (by decide) rfl rfl ?_
    have b29 : ((-2147483648) : Int) ≤ iI s 106 ∧ iI s 106 ≤ 2147483647 := I.1 106
    refine z_icmp_lt X (t := 18) (show cdA 285 14 = some (.if_icmp .lt 4, 3, 2, 0, 0) from rfl) (by decide) ⟨by first | exact oq_fa4e5087 p7.1 | omega, by first | exact oq_1b20a017 p7.2 p0.2 b1.2 | omega⟩ (rng_to _) (fun g30 => ?_) (fun g30 => ?_)
    ·
      have hl : lsB B u := (bso9_l p8.1).mpr (by first | (clear g6; omega) | omega)
      have hg1 := jGTJ.1.1.1
      have hg2 := jGTJ.2.2.1
      have hg3 := jGTJ.2.2.2.1
      have hyq : (y : Int).toNat = qn := by first | (clear g6; omega) | omega
      refine z_load_n X (x := x) (show cdA 285 18 = some (.iload_n 1, 1, 0, 0, 0) from rfl) (List.Mem.tail _ (List.Mem.head _)) ?_
      refine z_aload_n X (x := A 179) (show cdA 285 19 = some (.aload_n 0, 1, 0, 0, 0) from rfl) (List.Mem.head _) ?_
      refine z_getI X 179 (show cdA 285 20 = some (.getfield 431, 3, 12, 74, 0) from rfl) (by decide) rfl rfl ?_
      have b31 : (0 : Int) ≤ iI s 105 ∧ iI s 105 ≤ 12 := I.1 105
      refine z_icmp_ne X (t := 76) (show cdA 285 23 = some (.if_icmp .ne 53, 3, 1, 0, 0) from rfl) (by decide) ⟨by first | exact oq_fa4e5087 p0.1 | omega, by first | exact oq_39d2cc6e p0.2 b31.2 | omega⟩ (rng_to _) (fun g32 => ?_) (fun g32 => ?_)
      ·
        refine z_aload_n X (x := A 179) (show cdA 285 76 = some (.aload_n 0, 1, 0, 0, 0) from rfl) (List.Mem.head _) ?_
        refine s_getR X 179 (show cdA 285 77 = some (.getfield 142, 3, 12, 68, 0) from rfl) (by decide) rfl rfl ?_
        refine z_load_n X (x := x) (show cdA 285 80 = some (.iload_n 1, 1, 0, 0, 0) from rfl) (List.Mem.tail _ (List.Mem.head _)) ?_
        refine z_ald X 455 (show cdA 285 81 = some (.iaload, 1, 0, 0, 0) from rfl) (by decide) rfl (by first | exact p0.1 | omega) (show x < 8 by first | exact oq_1fa780f7 g32 p2 p0.2 | omega) (by decide) ?_
        have b33 : (0 : Int) ≤ iC s 400 (x).toNat ∧ iC s 400 (x).toNat ≤ 11 := I.2 400 _ (show (x).toNat < 8 by first | exact oq_54c6e91f g32 p2 p0.2 | omega)
        refine z_store X (lv' := [(6, .int (Int32.ofInt (iC s 400 (x).toNat))), (0, .ref (A 179)), (1, .int (Int32.ofInt x)), (2, .int (Int32.ofInt y)), (3, .int (Int32.ofInt z)), (4, .int (Int32.ofInt w)), (5, .int (Int32.ofInt u))]) (show cdA 285 82 = some (.istore 6, 2, 0, 0, 0) from rfl) (by decide) (fun _ h => h) ?_
        refine z_const X (show cdA 285 84 = some (.iconst 1, 1, 0, 0, 0) from rfl) ?_
        refine z_store X (lv' := [(7, .int (Int32.ofInt 1)), (6, .int (Int32.ofInt (iC s 400 (x).toNat))), (0, .ref (A 179)), (1, .int (Int32.ofInt x)), (2, .int (Int32.ofInt y)), (3, .int (Int32.ofInt z)), (4, .int (Int32.ofInt w)), (5, .int (Int32.ofInt u))]) (show cdA 285 85 = some (.istore 7, 2, 0, 0, 0) from rfl) (by decide) (fun _ h => h) ?_
        refine WS_lv (lv := [(0, .ref (A 179)), (1, .int (Int32.ofInt x)), (2, .int (Int32.ofInt y)), (3, .int (Int32.ofInt z)), (4, .int (Int32.ofInt w)), (5, .int (Int32.ofInt u)), (6, .int (Int32.ofInt (iC s 400 (x).toNat))), (7, .int (Int32.ofInt 1))]) (List.forall_mem_cons.mpr ⟨(List.Mem.tail _ (List.Mem.tail _ (List.Mem.head _))), (List.forall_mem_cons.mpr ⟨(List.Mem.tail _ (List.Mem.tail _ (List.Mem.tail _ (List.Mem.head _)))), (List.forall_mem_cons.mpr ⟨(List.Mem.tail _ (List.Mem.tail _ (List.Mem.tail _ (List.Mem.tail _ (List.Mem.head _))))), (List.forall_mem_cons.mpr ⟨(List.Mem.tail _ (List.Mem.tail _ (List.Mem.tail _ (List.Mem.tail _ (List.Mem.tail _ (List.Mem.head _)))))), (List.forall_mem_cons.mpr ⟨(List.Mem.tail _ (List.Mem.tail _ (List.Mem.tail _ (List.Mem.tail _ (List.Mem.tail _ (List.Mem.tail _ (List.Mem.head _))))))), (List.forall_mem_cons.mpr ⟨(List.Mem.tail _ (List.Mem.tail _ (List.Mem.tail _ (List.Mem.tail _ (List.Mem.tail _ (List.Mem.tail _ (List.Mem.tail _ (List.Mem.head _)))))))), (List.forall_mem_cons.mpr ⟨(List.Mem.tail _ (List.Mem.head _)), (List.forall_mem_cons.mpr ⟨(List.Mem.head _), (fun q h => absurd h List.not_mem_nil)⟩)⟩)⟩)⟩)⟩)⟩)⟩)⟩) ?_
        refine L87 ((4 - 1 : Int).toNat + 1) s (iC s 400 (x).toNat) 1 I F jRLx jMDJ jGTJ jMZJ ⟨by rw [show gtB (hmoS U S qn) (hrdS U S qn) ft (cHt (hitP U S qn) (uN U)) (mdM s) (x : Int).toNat u z w B 1 = B from if_pos rfl]; exact p8.1, fun _ _ => rfl⟩ (by first | exact ⟨oq_0c00f521 g32 p7.2 p7.1 p0.2, p2, And.intro (p4.1) (p4.2), And.intro (p5.1) (p5.2), And.intro (p6.1) (p6.2), And.intro (p7.1) (p7.2), by decide, by decide, And.intro (by decide) (And.intro (b33.1) (b33.2)), by decide, by decide⟩ | omega) (Nat.lt_succ_self _) ?_
        intro s34 x35 Is34 Fs34 JRLx_s34 JMDJ_s34 JGTJ_s34 JMZJ_s34 Qs34 hs34
        have b36 : (0 : Int) ≤ iI s34 105 ∧ iI s34 105 ≤ 12 := Is34.1 105
        have b37 : ((-2147483648) : Int) ≤ iI s34 106 ∧ iI s34 106 ≤ 2147483647 := Is34.1 106
        have b38 : (1 : Int) ≤ iI s34 89 ∧ iI s34 89 ≤ 8 := Is34.1 89
        have b39 : (0 : Int) ≤ iI s34 90 ∧ iI s34 90 ≤ 12 := Is34.1 90
        refine z_aload_n X (x := A 179) (show cdA 285 196 = some (.aload_n 0, 1, 0, 0, 0) from rfl) (List.Mem.head _) ?_
        refine s_getR X 179 (show cdA 285 197 = some (.getfield 145, 3, 12, 69, 0) from rfl) (by decide) rfl rfl ?_
        refine z_load X (x := (iC s 400 (x).toNat)) (show cdA 285 200 = some (.iload 6, 2, 0, 0, 0) from rfl) (List.Mem.tail _ (List.Mem.tail _ (List.Mem.tail _ (List.Mem.tail _ (List.Mem.tail _ (List.Mem.tail _ (List.Mem.head _))))))) ?_
        refine z_const X (show cdA 285 202 = some (.iconst 0, 1, 0, 0, 0) from rfl) ?_
        refine z_ast X 456 (show cdA 285 203 = some (.iastore, 1, 0, 0, 0) from rfl) (by decide) rfl (by first | exact hs34.2.2.2.2.2.2.2.2.1.2.1 | omega) (show (iC s 400 (x).toNat) < 12 by first | exact oq_0ddfcfee hs34.2.2.2.2.2.2.2.2.1.2.2 | omega) (by decide) ?_
        obtain ⟨s40, hs40⟩ : ∃ x0, x0 = uC s34 401 ((iC s 400 (x).toNat)).toNat (Int32.ofInt 0) := ⟨_, rfl⟩
        rw [← hs40]
        have Is40 : Bd s40 := by rw [hs40]; exact bd_C Is34 (show (0 : Int) ≤ 0 ∧ 0 ≤ 3 by first | exact ⟨by decide, by decide⟩ | omega) (by decide)
        have Fs40 := fm_C (i := ((iC s 400 (x).toNat)).toNat) (x := Int32.ofInt 0) Fs34 (show 401 ∈ _ by decide)
        rw [← hs40] at Fs40
        have ws40_105 : iI s40 105 = iI s34 105 := by rw [hs40]; rfl
        have ws40_106 : iI s40 106 = iI s34 106 := by rw [hs40]; rfl
        have ws40_89 : iI s40 89 = iI s34 89 := by rw [hs40]; rfl
        have ws40_90 : iI s40 90 = iI s34 90 := by rw [hs40]; rfl
        have fs40 : Fm [] [401] s34 s40 := by rw [hs40]; exact fm_C (fm_rf _ _ _) (show 401 ∈ _ by decide)
        have JRLx_s40 : RLx s40 := RLx_fm fs40 (by decide) JRLx_s34
        have JMDJ_s40 : MDJ U s40 := MDJ_fm fs40 (by decide) JMDJ_s34
        have JGTJ_s40 : GTJ U S qn ft s40 := GTJ_fm fs40 (by decide) JGTJ_s34
        have hU0 : s40 = uC s34 401 (iC s34 400 (x : Int).toNat).toNat (Int32.ofInt 0) := by rw [show iC s34 400 (x : Int).toNat = (iC s 400 (x).toNat) by have zz : iC s34 400 (x : Int).toNat = iC s 400 (x : Int).toNat := fm_c Fs34 (by decide); omega]; exact hs40
        have hMZ : MZJ U (hitP U S qn) s40 := mzj_u JGTJ_s34 (by first | (clear g32 g6; omega) | (clear g6; omega) | omega) JMZJ_s34 hU0
        have hTS : TSM U (hitP U S qn) (gtB (hmoS U S qn) (hrdS U S qn) ft (cHt (hitP U S qn) (uN U)) (mdM s) (x : Int).toNat u z w B 4) x s s40 := tsm_off JGTJ_s34 (by have zz := Qs34; rw [show x35 = 4 by first | (clear g32 g6; omega) | (clear g6; omega) | omega] at zz; exact zz) (by first | (clear g32 g6; omega) | (clear g6; omega) | omega) hU0
        exact w_vret X.1 q hRt (ax_d X (show cdA 285 204 = some (.return_, 1, 0, 0, 0) from rfl)) (Nat.zero_le _) (Nat.zero_le _) ⟨_, rfl, Is40, Fs40, JRLx_s40, hMZ, rfl, (by unfold GTQ; rw [gt_e (show (x : Int).toNat < (cHt (hitP U S qn) (uN U)) by first | (clear g32 g6; omega) | (clear g6; omega) | omega) hl]; exact hTS)⟩
      ·
        have hHQ := gt_hmq jMDJ jGTJ p8 (by first | (clear g6; omega) | omega)
        have hWK := gt_wok (c := ((cHt (hitP U S qn) (uN U)) : Int)) jMDJ hHQ
        refine z_aload_n X (x := A 179) (show cdA 285 26 = some (.aload_n 0, 1, 0, 0, 0) from rfl) (List.Mem.head _) ?_
        refine z_load_n X (x := y) (show cdA 285 27 = some (.iload_n 2, 1, 0, 0, 0) from rfl) (List.Mem.tail _ (List.Mem.tail _ (List.Mem.head _))) ?_
        refine z_callV X 179 (rm := rmN 284) (As := [.int (Int32.ofInt y)]) (st := []) (show cdA 285 28 = some (.invokevirtual 437, 3, 284, 0, 0) from rfl) rfl (by decide) rfl (by rw [E.1, E.2.1, E.2.2.1]; exact k_asMended9 G I jRLx jMDJ (by first | exact ⟨p4.1, p4.2⟩ | omega) (hHQ)) ⟨by rw [E.2.2.2]; exact (show 10 + 1 ≤ (12 + (52 + (r + 1))) from oq_04dc1188 r), by rw [E.2.2.2]; exact (show 8 + (5 + 11) + 189 ≤ (500 + 45 * (52 + (r + 1))) from oq_bb8002ac r), by rw [E.2.2.2]; exact Nat.le_refl 0, by rw [E.2.2.2]; exact Nat.le_refl 0⟩ (Nat.le_of_ble_eq_true rfl) (fun vv s41 hq => ?_) (fun ee s41 hq => ?_)
        rotate_left
        · obtain ⟨Is41, Fs41, JRLx_s41, hv, hps41⟩ := hq; cases hv
        obtain ⟨Is41, Fs41, JRLx_s41, hv, hps41⟩ := hq
        cases hv
        have Gs41 := fm_ts F Fs41 (by decide) (by decide)
        have JRLx_s41 : RLx s41 := RLx_fm Fs41 (by decide) jRLx
        have JMDJ_s41 : MDJ U s41 := MDJ_fm Fs41 (by decide) jMDJ
        have JGTJ_s41 : GTJ U S qn ft s41 := GTJ_fm Fs41 (by decide) jGTJ
        have JMZJ_s41 : MZJ U (hitP U S qn) s41 := MZJ_fm Fs41 (by decide) jMZJ
        have ws41_105 : iI s41 105 = iI s 105 := fm_i Fs41 (by decide)
        have ws41_106 : iI s41 106 = iI s 106 := fm_i Fs41 (by decide)
        have ws41_89 : iI s41 89 = iI s 89 := fm_i Fs41 (by decide)
        have ws41_90 : iI s41 90 = iI s 90 := fm_i Fs41 (by decide)
        show WS k 31 [(0, .ref (A 179)), (1, .int (Int32.ofInt x)), (2, .int (Int32.ofInt y)), (3, .int (Int32.ofInt z)), (4, .int (Int32.ofInt w)), (5, .int (Int32.ofInt u))] [] (Wd A dT s41) 0 0
        have hst1 : iI s41 90 = iI s 90 := fm_i Fs41 (by decide)
        have hAE := am_e (by have zz := hps41; rw [hyq, hg1] at zz; exact zz) ⟨hst1.trans jMDJ.1.1, jMDJ.1.2⟩ hWK
        have hML : MDL (uC9 U (wyC U (PcH (hitP U S qn) ((cHt (hitP U S qn) (uN U)) : Int)) (MD9 s) (RW9 s))) s41 := gt_mdl jMDJ hst1 JMDJ_s41.2.2.2.2.2.2 hWK
        refine z_aload_n X (x := A 179) (show cdA 285 31 = some (.aload_n 0, 1, 0, 0, 0) from rfl) (List.Mem.head _) ?_
        refine z_callV X 179 (rm := rmN 283) (As := []) (st := []) (show cdA 285 32 = some (.invokevirtual 440, 3, 283, 0, 0) from rfl) rfl (by decide) rfl (by rw [E.1, E.2.1, E.2.2.1]; exact k_noneFull9 G Is41 hAE.1 hAE.2.1 hML hAE.2.2.1 hAE.2.2.2 (by first | (clear g6; omega) | omega)) ⟨by rw [E.2.2.2]; exact (show 37 + 1 ≤ (12 + (52 + (r + 1))) from oq_35b456ef r), by rw [E.2.2.2]; exact (show 8 + (2 + 11) + 1578 ≤ (500 + 45 * (52 + (r + 1))) from oq_14bb5664 r), by rw [E.2.2.2]; exact Nat.le_refl 0, by rw [E.2.2.2]; exact Nat.le_refl 0⟩ (Nat.le_of_ble_eq_true rfl) (fun vv s43 hq => ?_) (fun ee s43 hq => ?_)
        rotate_left
        · obtain ⟨Is43, Fs43, e44, hv, hrs43, hps43⟩ := hq; cases hv
        obtain ⟨Is43, Fs43, e44, hv, hrs43, hps43⟩ := hq
        cases hv
        have Gs43 := fm_ts Gs41 Fs43 (by decide) (by decide)
        have JRLx_s43 : RLx s43 := RLx_fm Fs43 (by decide) JRLx_s41
        have JMDJ_s43 : MDJ U s43 := MDJ_fm Fs43 (by decide) JMDJ_s41
        have JGTJ_s43 : GTJ U S qn ft s43 := GTJ_fm Fs43 (by decide) JGTJ_s41
        have JMZJ_s43 : MZJ U (hitP U S qn) s43 := MZJ_fm Fs43 (by decide) JMZJ_s41
        have JNW_s43 : NW s43 := NW_fm Fs43 (by decide) hAE.1
        have JNWL_s43 : NWL s43 := NWL_fm Fs43 (by decide) hAE.2.1
        have JNWE_s43 : NWE (uC9 U (wyC U (PcH (hitP U S qn) ((cHt (hitP U S qn) (uN U)) : Int)) (MD9 s) (RW9 s))) s43 := NWE_fm Fs43 (by decide) hAE.2.2.1
        have JNMQ_s43 : NMQ (moC U (PcH (hitP U S qn) ((cHt (hitP U S qn) (uN U)) : Int)) (MD9 s) qn) (uN U : Int) s43 := NMQ_fm Fs43 (by decide) hAE.2.2.2
        have JMDL_s43 : MDL (uC9 U (wyC U (PcH (hitP U S qn) ((cHt (hitP U S qn) (uN U)) : Int)) (MD9 s) (RW9 s))) s43 := MDL_fm Fs43 (by decide) hML
        have ws43_105 : iI s43 105 = iI s41 105 := fm_i Fs43 (by decide)
        have ws43_106 : iI s43 106 = iI s41 106 := fm_i Fs43 (by decide)
        have ws43_89 : iI s43 89 = iI s41 89 := fm_i Fs43 (by decide)
        have ws43_90 : iI s43 90 = iI s41 90 := fm_i Fs43 (by decide)
        show WS k 35 [(0, .ref (A 179)), (1, .int (Int32.ofInt x)), (2, .int (Int32.ofInt y)), (3, .int (Int32.ofInt z)), (4, .int (Int32.ofInt w)), (5, .int (Int32.ofInt u))] [.int (Int32.ofInt e44)] (Wd A dT s43) 0 0
        have hLF := lf_eq (f := pfM s) (lim := fun j => iC s 229 j) (by first | (clear hps43 g6; omega) | (clear g6; omega) | omega) (gt_md jGTJ) (gt_rw jGTJ p8 (by first | (clear hps43 g6; omega) | (clear g6; omega) | omega)) (fun b hb => (hg3.2.2 b hb).1)
        have hFF := hps43
        rw [show pfM s41 = pfM s from funext (fun j => fm_c Gs41 (by decide)), show (fun j => iC s41 229 j) = (fun j => iC s 229 j) from funext (fun j => fm_c Gs41 (by decide))] at hFF
        have hFT : ft (msI (mdM s) 1 (cHt (hitP U S qn) (uN U))) = fitK9 U S qn (pfM s) (fun j => iC s 229 j) (msI (mdM s) 1 (cHt (hitP U S qn) (uN U))) := congrFun jGTJ.2.2.2.2 _
        refine z_if_ne X (t := 39) (show cdA 285 35 = some (.ifCond .ne 4, 3, 1, 0, 0) from rfl) (by decide) hrs43 (fun g45 => ?_) (fun g45 => ?_)
        ·
          have hf : ft (msI (mdM s) 1 (cHt (hitP U S qn) (uN U))) := by rw [hFT]; exact hFF.elim (fun zz => hLF.mp zz.2) (fun zz => absurd zz.1 (by first | (clear g45 hps43 g6; omega) | (clear hps43 g6; omega) | omega))
          refine z_aload_n X (x := A 179) (show cdA 285 39 = some (.aload_n 0, 1, 0, 0, 0) from rfl) (List.Mem.head _) ?_
          refine z_load X (x := u) (show cdA 285 40 = some (.iload 5, 2, 0, 0, 0) from rfl) (List.Mem.tail _ (List.Mem.tail _ (List.Mem.tail _ (List.Mem.tail _ (List.Mem.tail _ (List.Mem.head _)))))) ?_
          refine s_putI X 179 (show cdA 285 42 = some (.putfield 434, 3, 12, 75, 0) from rfl) (by decide) rfl rfl (by decide) rfl rfl rfl ?_
          obtain ⟨s46, hs46⟩ : ∃ x0, x0 = uI s43 106 (Int32.ofInt u) := ⟨_, rfl⟩
          rw [← hs46]
          have Is46 : Bd s46 := by rw [hs46]; exact bd_I Is43 (show ((-2147483648) : Int) ≤ u ∧ u ≤ 2147483647 by first | exact ⟨oq_fa4e5087 p7.1, oq_ef392b12 g30 b29.2⟩ | omega) ⟨by first | exact oq_fa4e5087 p7.1 | omega, by first | exact oq_ef392b12 g30 b29.2 | omega⟩
          have Fs46 := fm_I (x := Int32.ofInt u) Gs43 (show 106 ∈ _ by decide)
          rw [← hs46] at Fs46
          have vs46 : iI s46 106 = u := by rw [hs46]; exact iI_u ⟨by first | exact oq_fa4e5087 p7.1 | omega, by first | exact oq_ef392b12 g30 b29.2 | omega⟩
          have ws46_105 : iI s46 105 = iI s43 105 := by rw [hs46]; rfl
          have ws46_89 : iI s46 89 = iI s43 89 := by rw [hs46]; rfl
          have ws46_90 : iI s46 90 = iI s43 90 := by rw [hs46]; rfl
          have fs46 : Fm [106] [] s43 s46 := by rw [hs46]; exact fm_I (fm_rf _ _ _) (show 106 ∈ _ by decide)
          have JRLx_s46 : RLx s46 := RLx_fm fs46 (by decide) JRLx_s43
          have JMDJ_s46 : MDJ U s46 := MDJ_fm fs46 (by decide) JMDJ_s43
          have JGTJ_s46 : GTJ U S qn ft s46 := GTJ_fm fs46 (by decide) JGTJ_s43
          have JMZJ_s46 : MZJ U (hitP U S qn) s46 := MZJ_fm fs46 (by decide) JMZJ_s43
          refine z_const X (show cdA 285 45 = some (.iconst 0, 1, 0, 0, 0) from rfl) ?_
          refine z_store X (lv' := [(6, .int (Int32.ofInt 0)), (0, .ref (A 179)), (1, .int (Int32.ofInt x)), (2, .int (Int32.ofInt y)), (3, .int (Int32.ofInt z)), (4, .int (Int32.ofInt w)), (5, .int (Int32.ofInt u))]) (show cdA 285 46 = some (.istore 6, 2, 0, 0, 0) from rfl) (by decide) (fun _ h => h) ?_
          refine WS_lv (lv := [(0, .ref (A 179)), (6, .int (Int32.ofInt 0))]) (List.forall_mem_cons.mpr ⟨(List.Mem.tail _ (List.Mem.head _)), (List.forall_mem_cons.mpr ⟨(List.Mem.head _), (fun q h => absurd h List.not_mem_nil)⟩)⟩) ?_
          refine L48 ((12 - 0 : Int).toNat + 1) s46 0 Is46 Fs46 JRLx_s46 ⟨fun x _ h => absurd h (by first | (clear g45 hps43 g6; omega) | (clear hps43 g6; omega) | omega), fun i => (show iC s46 401 i = iC s43 401 i by rw [hs46]; rfl).trans ((fm_c Fs43 (by decide)).trans (fm_c Fs41 (by decide)))⟩ (by first | exact ⟨And.intro (by decide) (by decide), vs46⟩ | omega) (Nat.lt_succ_self _) ?_
          intro s47 x48 Is47 Fs47 JRLx_s47 Qs47 hs47
          have b49 : (0 : Int) ≤ iI s47 105 ∧ iI s47 105 ≤ 12 := Is47.1 105
          have b50 : ((-2147483648) : Int) ≤ iI s47 106 ∧ iI s47 106 ≤ 2147483647 := Is47.1 106
          have b51 : (1 : Int) ≤ iI s47 89 ∧ iI s47 89 ≤ 8 := Is47.1 89
          have b52 : (0 : Int) ≤ iI s47 90 ∧ iI s47 90 ≤ 12 := Is47.1 90
          have hMZ : MZJ U (hitP U S qn) s47 := fun b hb p => (Qs47.2 b).trans (jMZJ b hb p)
          exact w_vret X.1 q hRt (ax_d X (show cdA 285 75 = some (.return_, 1, 0, 0, 0) from rfl)) (Nat.zero_le _) (Nat.zero_le _) ⟨_, rfl, Is47, Fs47, JRLx_s47, hMZ, rfl, (gtq_1 jGTJ jMZJ p8 (by first | (clear g45 hps43 g6; omega) | (clear hps43 g6; omega) | omega) hf hl (by first | (clear g45 hps43 g6; omega) | (clear hps43 g6; omega) | omega) (by first | (clear g45 hps43 g6; omega) | (clear hps43 g6; omega) | omega) (fun x hx => Qs47.1 x hx (by first | (clear g45 hps43 g6; omega) | (clear hps43 g6; omega) | omega)) jMDJ.1.2 (fun i => by show iC s47 401 (iC s47 400 i).toNat = _; rw [Qs47.2, show iC s47 400 i = iC s 400 i from fm_c Fs47 (by decide)]))⟩
        ·
          exact w_vret X.1 q hRt (ax_d X (show cdA 285 38 = some (.return_, 1, 0, 0, 0) from rfl)) (Nat.zero_le _) (Nat.zero_le _) ⟨_, rfl, Is43, Gs43, JRLx_s43, JMZJ_s43, rfl, (gtq_0 jGTJ p8 (by first | (clear hps43 g6; omega) | (clear g6; omega) | omega) (by rw [hFT]; exact hFF.elim (fun zz => absurd zz.1 (by first | (clear hps43 g6; omega) | (clear g6; omega) | omega)) (fun zz w => zz.2 (hLF.mpr w))) (by first | (clear hps43 g6; omega) | (clear g6; omega) | omega) (sam_ts (sam_fm Fs41 (by decide)) (sam_fm Fs43 (by decide))) (fun i => (mdm_fm Fs43 (by decide) i).trans (mdm_fm Fs41 (by decide) i)))⟩
    ·
      exact w_vret X.1 q hRt (ax_d X (show cdA 285 17 = some (.return_, 1, 0, 0, 0) from rfl)) (Nat.zero_le _) (Nat.zero_le _) ⟨_, rfl, I, F, jRLx, jMZJ, rfl, (gtq_no p8 (by first | (clear g6; omega) | omega))⟩
theorem k_gor9 (G : GX l s0 D tys a0 dT) {U : AirD} {S : Int → Prop} {qn : Nat} {ft : Int → Prop} (r : Nat) : ∀ {s : PS} {x y z w u : Int} {B : MdO}, Bd s → RLx s → MDJ U s → GTJ U S qn ft s → MZJ U (hitP U S qn) s → (0 ≤ x ∧ x ≤ iI s 105) → (iI s 105 - x ≤ ((r : Nat) : Int)) → (iI s 105 ≤ 8) → (y = (qn : Int)) → (0 ≤ y ∧ y ≤ 23) → (0 ≤ z ∧ z ≤ 8) → (0 ≤ w ∧ w ≤ 8) → (0 ≤ u ∧ u ≤ 3000 * x) → (GTP U (hitP U S qn) B x s) → CT l s0 D A dT 285 (rkR (52 + (r))) [.ref (A 179), .int (Int32.ofInt x), .int (Int32.ofInt y), .int (Int32.ofInt z), .int (Int32.ofInt w), .int (Int32.ofInt u)] s (fun o t => Bd t ∧ Fm [77, 75, 78, 79, 80, 81, 106] [202, 204, 205, 206, 207, 208, 209, 210, 211, 212, 213, 214, 215, 216, 217, 218, 219, 220, 221, 222, 223, 224, 225, 226, 227, 203, 161, 230, 401, 402] s t ∧ RLx t ∧ MZJ U (hitP U S qn) t ∧ o = .inl none ∧ (GTQ U S qn ft B x u z w s t)) := by
  induction r with
  | zero => exact fun {_ _ _ _ _ _ _} I a b c d p0 p1 p2 p3 p4 p5 p6 p7 p8 => k_go90 G I a b c d p0 p1 p2 p3 p4 p5 p6 p7 p8
  | succ r ih => exact fun {_ _ _ _ _ _ _} I a b c d p0 p1 p2 p3 p4 p5 p6 p7 p8 => k_go9S G ih I a b c d p0 p1 p2 p3 p4 p5 p6 p7 p8
end M87lc

end
section
theorem oq_627b51e0 {a0 a1 : Int} (h0 : a0 = a1) (h1 : a1 = (-1)) : a0 = (-1) := by omega
theorem oq_6b02d9ba {a0 a1 a2 a3 : Int} (h0 : a0 = 0) (h1 : ((1 = 1 ∧ (a1 = 0 ∧ (a2 = 1 ∧ a0 = 1))) ∨ ((1 = 0 ∨ a1 ≠ 0) ∧ (a2 = a1 ∧ ((a0 = 0 ∧ a1 = 0) ∨ (a0 = 1 ∧ a1 ≠ 0)))))) (h2 : a1 = 0) : (0 ≤ a3 ∧ a3 ≤ 23) := by omega
theorem oq_4c9b0342 {a0 a1 a2 a3 : Int} (h0 : a0 = 0) (h1 : ((1 = 1 ∧ (a1 = 0 ∧ (a2 = 1 ∧ a0 = 1))) ∨ ((1 = 0 ∨ a1 ≠ 0) ∧ (a2 = a1 ∧ ((a0 = 0 ∧ a1 = 0) ∨ (a0 = 1 ∧ a1 ≠ 0)))))) (h2 : a1 = 0) : (0 ≤ a3 ∧ a3 ≤ 8) := by omega
theorem oq_d3994d9a {a0 a1 a2 a3 : Int} (h0 : a0 = 0) (h1 : ((1 = 1 ∧ (a1 = 0 ∧ (a2 = 1 ∧ a0 = 1))) ∨ ((1 = 0 ∨ a1 ≠ 0) ∧ (a2 = a1 ∧ ((a0 = 0 ∧ a1 = 0) ∨ (a0 = 1 ∧ a1 ≠ 0)))))) (h2 : a1 = 0) : ((-2) ≤ a3 ∧ a3 ≤ 11) := by omega
theorem oq_9014f91b {a0 a1 a2 a3 a4 : Int} (h0 : a0 = 0) (h1 : ((1 = 1 ∧ (a1 = 0 ∧ (a2 = 1 ∧ a0 = 1))) ∨ ((1 = 0 ∨ a1 ≠ 0) ∧ (a2 = a1 ∧ ((a0 = 0 ∧ a1 = 0) ∨ (a0 = 1 ∧ a1 ≠ 0)))))) (h2 : a1 = 0) : (a3 = a4 ∧ a4 ≤ 12) := by omega
theorem oq_f955fd23 {a0 a1 a2 a3 : Int} (h0 : a0 ≤ 23) (h1 : 0 ≤ a0) (h2 : a1 = 0) (h3 : ((a1 = 1 ∧ (0 ≤ a0 ∧ a0 ≤ 23)) ∨ (a1 = 0 ∧ (a0 < 0 ∨ 23 < a0)))) : a2 = a3 := by omega
theorem oq_a8ea036d {a0 : Int} (h0 : a0 ≤ 8) : (a0 - 0) ≤ ((8 : Nat) : Int) := by omega
theorem oq_b576d2a3 {a0 a1 a2 : Int} (h0 : a0 ≤ 23) (h1 : 0 ≤ a0) (h2 : a1 = 0) (h3 : ((a1 = 1 ∧ (0 ≤ a0 ∧ a0 ≤ 23)) ∨ (a1 = 0 ∧ (a0 < 0 ∨ 23 < a0)))) : a0 = a2 := by omega
theorem oq_d493c7ce {a0 a1 a2 a3 a4 : Int} (h0 : a0 = 0) (h1 : ((a0 = 1 ∧ (0 ≤ a1 ∧ a1 ≤ 23)) ∨ (a0 = 0 ∧ (a1 < 0 ∨ 23 < a1)))) : (a1 < 0 ∨ (23 < a1 ∨ (a2 < 0 ∨ (8 < a2 ∨ (a3 < 0 ∨ (8 < a3 ∨ (a4 < (-2) ∨ 11 < a4))))))) := by omega
theorem oq_028bc7f3 {a0 a1 a2 a3 : Int} (h0 : a0 ≤ 8) (h1 : 0 ≤ a0) (h2 : a1 = 0) (h3 : ((a1 = 1 ∧ (0 ≤ a0 ∧ a0 ≤ 8)) ∨ (a1 = 0 ∧ (a0 < 0 ∨ 8 < a0)))) : a2 = a3 := by omega
theorem oq_23424b26 {a0 a1 a2 a3 a4 : Int} (h0 : a0 = 0) (h1 : ((a0 = 1 ∧ (0 ≤ a1 ∧ a1 ≤ 8)) ∨ (a0 = 0 ∧ (a1 < 0 ∨ 8 < a1)))) : (a2 < 0 ∨ (23 < a2 ∨ (a1 < 0 ∨ (8 < a1 ∨ (a3 < 0 ∨ (8 < a3 ∨ (a4 < (-2) ∨ 11 < a4))))))) := by omega
theorem oq_5f471880 {a0 a1 a2 a3 a4 : Int} (h0 : a0 = 0) (h1 : ((a0 = 1 ∧ (0 ≤ a1 ∧ a1 ≤ 8)) ∨ (a0 = 0 ∧ (a1 < 0 ∨ 8 < a1)))) : (a2 < 0 ∨ (23 < a2 ∨ (a3 < 0 ∨ (8 < a3 ∨ (a1 < 0 ∨ (8 < a1 ∨ (a4 < (-2) ∨ 11 < a4))))))) := by omega
theorem oq_d324d61e {a0 a1 a2 a3 a4 a5 a6 : Int} (h0 : a0 ≠ 0) (h1 : ((0 = 1 ∧ (a1 = 0 ∧ (a2 = 1 ∧ a0 = 1))) ∨ ((0 = 0 ∨ a1 ≠ 0) ∧ (a2 = a1 ∧ ((a0 = 0 ∧ a1 = 0) ∨ (a0 = 1 ∧ a1 ≠ 0)))))) (h2 : a1 = 0) : (a3 < 0 ∨ (23 < a3 ∨ (a4 < 0 ∨ (8 < a4 ∨ (a5 < 0 ∨ (8 < a5 ∨ (a6 < (-2) ∨ 11 < a6))))))) := by omega
theorem oq_5d5b93d4 {a0 a1 a2 a3 : Int} (h0 : a0 ≤ 11) (h1 : (-2) ≤ a0) (h2 : a1 = 0) (h3 : ((a1 = 1 ∧ ((-2) ≤ a0 ∧ a0 ≤ 11)) ∨ (a1 = 0 ∧ (a0 < (-2) ∨ 11 < a0)))) : a2 = a3 := by omega
theorem oq_0d043b07 {a0 a1 a2 a3 a4 : Int} (h0 : a0 = 0) (h1 : ((a0 = 1 ∧ ((-2) ≤ a1 ∧ a1 ≤ 11)) ∨ (a0 = 0 ∧ (a1 < (-2) ∨ 11 < a1)))) : (a2 < 0 ∨ (23 < a2 ∨ (a3 < 0 ∨ (8 < a3 ∨ (a4 < 0 ∨ (8 < a4 ∨ (a1 < (-2) ∨ 11 < a1))))))) := by omega
/-! Mends: model, the whole -/
def HSQ (P : Nat → Prop) (c bi : Int) (t : PS) : Prop := iI t 105 = (cHt P c.toNat : Int) ∧ Int32.ofInt bi = hbW P c.toNat ∧ (∀ x : Nat, (x : Int) < c → P x → cHt P x < 8 → iC t 400 (cHt P x) = (x : Int)) ∧ ∀ x : Nat, (x : Int) < c → iC t 401 x = 0
theorem hsq_0 {P : Nat → Prop} {t : PS} (h : iI t 105 = 0) : HSQ P 0 0 t := ⟨h, rfl, fun x hx => absurd hx (by omega), fun x hx => absurd hx (by omega)⟩
theorem hsq_n {P : Nat → Prop} {c bi : Int} {t u : PS} (h : HSQ P c bi t) (c0 : 0 ≤ c) (hn : ¬ P c.toNat) (e1 : iI u 105 = iI t 105) (e2 : SAM 400 t u) (e3 : UPD 401 c 0 t u) : HSQ P (c + 1) bi u := by
  rw [show c + 1 = ((c.toNat + 1 : Nat) : Int) by omega]
  refine ⟨?_, ?_, fun x hx p k => ?_, fun x hx => ?_⟩
  · rw [Int.toNat_natCast, cht_n hn, e1]; exact h.1
  · rw [Int.toNat_natCast, hbw_n hn]; exact h.2.1
  · have : x ≠ c.toNat := fun z => hn (z ▸ p)
    rw [e2]; exact h.2.2.1 x (by omega) p k
  · by_cases z : x = c.toNat
    · rw [z]; exact e3.1
    · rw [e3.2 x z]; exact h.2.2.2 x (by omega)
theorem hsq_y {P : Nat → Prop} {c bi bj y : Int} {t u : PS} (h : HSQ P c bi t) (c0 : 0 ≤ c) (hp : P c.toNat) (e1 : iI u 105 = iI t 105 + 1) (e2 : (iI t 105 < 8 ∧ UPD 400 (iI t 105) c t u) ∨ (8 ≤ iI t 105 ∧ SAM 400 t u)) (e3 : UPD 401 c 0 t u) (b1 : Int32.ofInt y = Int32.ofInt 1 <<< (Int32.ofInt c &&& 31)) (b2 : Int32.ofInt bj = Int32.ofInt bi ||| Int32.ofInt y) : HSQ P (c + 1) bj u := by
  have h1 := h.1
  rw [show c + 1 = ((c.toNat + 1 : Nat) : Int) by omega]
  refine ⟨?_, ?_, fun x hx p k => ?_, fun x hx => ?_⟩
  · rw [Int.toNat_natCast, cht_y hp, e1]; omega
  · rw [Int.toNat_natCast, hbw_y hp, b2, b1, h.2.1, show ((c.toNat : Nat) : Int) = c by omega]
  · by_cases z : x = c.toNat
    · rw [z] at k ⊢
      rcases e2 with ⟨a1, a2⟩ | ⟨a1, a2⟩
      · have w := a2.1
        rw [h1, Int.toNat_natCast] at w
        rw [w]; omega
      · omega
    · have w := h.2.2.1 x (by omega) p k
      have hl := cht_lt (P := P) (m := x) (n := c.toNat) (by omega) p
      rcases e2 with ⟨a1, a2⟩ | ⟨a1, a2⟩
      · rw [a2.2 _ (by omega)]; exact w
      · rw [a2]; exact w
  · by_cases z : x = c.toNat
    · rw [z]; exact e3.1
    · rw [e3.2 x z]; exact h.2.2.2 x (by omega)
/-- the ways round found so far -/
def RNL (U : AirD) (S : Int → Prop) (P : Nat → Prop) (c : Int) (t : PS) : Prop := ∀ x, x < uN U → P x → (cHt P x : Int) < c → RNR S (fsA U x) (lsA U x) (iC t 403 x) (fun k => iC t (405 + x) k)
theorem rnl_0 {U : AirD} {S : Int → Prop} {P : Nat → Prop} {t : PS} : RNL U S P 0 t := fun x _ _ h => absurd h (by omega)
theorem rnl_up {U : AirD} {S : Int → Prop} {P : Nat → Prop} {c b : Int} {t u : PS} (h : RNL U S P c t) (hn : uN U ≤ 12) (b0 : 0 ≤ b) (hb : P b.toNat) (e : (cHt P b.toNat : Int) = c) (r : RNR S (fsA U b.toNat) (lsA U b.toNat) (iC u 403 b.toNat) (fun k => iC u (405 + b.toNat) k)) (k : RKP b t u) : RNL U S P (c + 1) u := fun x hx p hc => by
  by_cases z : x = b.toNat
  · rw [z]; exact r
  · have ne : cHt P x ≠ cHt P b.toNat := fun w => z (cht_inj p hb w)
    rw [k.1 x z, show (fun i => iC u (405 + x) i) = fun i => iC t (405 + x) i from funext (fun i => k.2 x i (by omega) z)]
    exact h x hx p (by omega)
theorem slm_of {U : AirD} {S : Int → Prop} {q : Nat} {ft : Int → Prop} {a b : Int} {s t : PS} (g : GTQ U S q ft none 0 0 a b s t) : BSO9 U (hitP U S q) (slB U S q ft a b) t := by
  have z := g.1
  have e : trB (hmoS U S q) (hrdS U S q) ft (cHt (hitP U S q) (uN U)) (cHt (hitP U S q) (uN U) - (0 : Int).toNat) (mdM s) 0 a b none = slB U S q ft a b := trb_c (fun _ _ => ⟨rfl, rfl⟩) _ (Nat.le_refl _) (fun j hj => absurd hj (by omega))
  rw [e] at z
  exact z
theorem bso9_0 {U : AirD} {P : Nat → Prop} {B : MdO} {s : PS} (h : BSO9 U P B s) (e : iI s 106 = -1) : B = none := by
  cases B with
  | none => rfl
  | some b =>
    have h1 := h.1
    omega
theorem bso9_1 {U : AirD} {P : Nat → Prop} {B : MdO} {s : PS} (h : BSO9 U P B s) (e : iI s 106 ≠ -1) : ∃ b, B = some b ∧ iI s 106 = b.1 ∧ (∀ j, j < cHt P (uN U) → iC s 402 (hAt P j) = b.2 j) ∧ ∀ x, x < uN U → ¬ P x → iC s 402 x = 0 := by
  cases B with
  | none => exact absurd (show iI s 106 = -1 from h) e
  | some b => exact ⟨b, rfl, h.1.1, h.2.1, h.2.2⟩
theorem mnm_m {U : AirD} {S : Int → Prop} {q : Nat} {ft : Int → Prop} {a b p e : Int} {t : PS} (h : BSO9 U (hitP U S q) (slB U S q ft a b) t) (hb : iI t 106 ≠ -1) (hn : cHt (hitP U S q) (uN U) ≤ 8) (he : p = -1 ∧ e = iI t 106) : MNE U S q ft a b p e := by
  obtain ⟨c, c1, c2, c3⟩ := bso9_1 h hb
  exact Or.inr (Or.inr ⟨by omega, hn, c, c1, Or.inl ⟨he.1, he.2.trans c2⟩⟩)
theorem mnm_s {U : AirD} {S : Int → Prop} {q : Nat} {ft : Int → Prop} {a b p e : Int} {t : PS} (h : BSO9 U (hitP U S q) (slB U S q ft a b) t) (hb : iI t 106 ≠ -1) (hn : cHt (hitP U S q) (uN U) ≤ 8) (hp : 0 ≤ p) (he : (p < (uN U : Int) ∧ e = iC t 402 p.toNat) ∨ ((uN U : Int) ≤ p ∧ e = 0)) : MNE U S q ft a b p e := by
  obtain ⟨c, c1, c2, c3, c4⟩ := bso9_1 h hb
  refine Or.inr (Or.inr ⟨by omega, hn, c, c1, Or.inr ⟨hp, ?_⟩⟩)
  have ha : ∀ i, i < cHt (hitP U S q) (uN U) → hAt (hitP U S q) i < uN U ∧ hitP U S q (hAt (hitP U S q) i) := fun i hi => by
    obtain ⟨s1, s2, s3, s4⟩ := cht_at hi
    rw [hat_eq s3 s4]; exact ⟨s2, s3⟩
  rcases he with ⟨e1, e2⟩ | ⟨e1, e2⟩
  · by_cases w : hitP U S q p.toNat
    · have hl := cht_lt (P := hitP U S q) (m := p.toNat) (n := uN U) (by omega) w
      have e : hAt (hitP U S q) (cHt (hitP U S q) p.toNat) = p.toNat := hat_eq w rfl
      refine Or.inl ⟨cHt (hitP U S q) p.toNat, hl, by rw [e]; omega, ?_⟩
      rw [e2, ← c3 _ hl, e]
    · exact Or.inr ⟨fun i hi z => w (by rw [show p.toNat = hAt (hitP U S q) i by omega]; exact (ha i hi).2), e2.trans (c4 _ (by omega) w)⟩
  · exact Or.inr ⟨fun i hi z => by have := (ha i hi).1; omega, e2⟩
/-- both sides: the same storm, the same pieces and limits, the same answer -/
theorem st_eq {s : PS} (h : SEQ s) (b : ∀ j, j < 128 → 0 ≤ iC s 399 j ∧ iC s 399 j ≤ 1) : stS s = stM s := funext (fun c => propext (by
  unfold stS stM
  constructor
  · rintro ⟨c0, c1⟩
    have := (h c c0.1 c0.2).mp c1
    exact ⟨c0, by omega⟩
  · rintro ⟨c0, c1⟩
    have := b c.toNat (by omega)
    exact ⟨c0, (h c c0.1 c0.2).mpr (by omega)⟩))
theorem fitk_c {U : AirD} {S : Int → Prop} {q : Nat} {f f' lim lim' : Nat → Int} (hf : ∀ j, j < 128 → f j = f' j) (hl : ∀ p, p < 8 → lim p = lim' p) : fitK9 U S q f lim = fitK9 U S q f' lim' := by
  have e : ∀ p : Int, pcS f p = pcS f' p := fun p => funext (fun x => propext (by
    unfold pcS
    constructor
    · rintro ⟨a, b⟩
      exact ⟨a, by rw [← hf _ (by omega)]; exact b⟩
    · rintro ⟨a, b⟩
      exact ⟨a, by rw [hf _ (by omega)]; exact b⟩))
  funext k
  refine propext ?_
  unfold fitK9 fitN ldK9 presF
  simp only [e]
  constructor
  · intro z p hp w
    rw [← hl p (by omega)]; exact z p hp w
  · intro z p hp w
    rw [hl p (by omega)]; exact z p hp w
theorem hat_at {P : Nat → Prop} {n i : Nat} (h : i < cHt P n) : cHt P (hAt P i) = i := by
  obtain ⟨s1, s2, s3, s4⟩ := cht_at h
  rw [hat_eq s3 s4]; exact s4
theorem mne_un {U : AirD} {S : Int → Prop} {q : Nat} {ft : Int → Prop} {a b p e e' : Int} (h : MNE U S q ft a b p e) (h' : MNE U S q ft a b p e') : e = e' := by
  rcases h with ⟨a1, a2, a3⟩ | ⟨a1, a2, a3⟩ | ⟨a1, a2, c, c1, c2⟩
  · rcases h' with ⟨b1, b2, b3⟩ | ⟨b1, b2, b3⟩ | ⟨b1, b2, d, d1, d2⟩
    · exact (of_to a2 a3).trans (of_to b2 b3).symm
    · exact absurd a1 b1
    · exact absurd a1 b1
  · rcases h' with ⟨b1, b2, b3⟩ | ⟨b1, b2, b3⟩ | ⟨b1, b2, d, d1, d2⟩
    · exact absurd b1 a1
    · exact a3.trans b3.symm
    · rcases a2 with w | w
      · omega
      · rw [w] at d1; cases d1
  · rcases h' with ⟨b1, b2, b3⟩ | ⟨b1, b2, b3⟩ | ⟨b1, b2, d, d1, d2⟩
    · exact absurd b1 a1
    · rcases b2 with w | w
      · omega
      · rw [w] at c1; cases c1
    · rw [c1] at d1
      cases d1
      rcases c2 with ⟨x1, x2⟩ | ⟨x1, x2⟩
      · rcases d2 with ⟨y1, y2⟩ | ⟨y1, y2⟩
        · exact x2.trans y2.symm
        · omega
      · rcases d2 with ⟨y1, y2⟩ | ⟨y1, y2⟩
        · omega
        · rcases x2 with ⟨i, i1, i2, i3⟩ | ⟨i1, i2⟩
          · rcases y2 with ⟨j, j1, j2, j3⟩ | ⟨j1, j2⟩
            · have e1 := hat_at i1
              have e2 := hat_at j1
              have e3 : hAt (hitP U S q) i = hAt (hitP U S q) j := by omega
              rw [e3, e2] at e1
              rw [i3, j3, e1]
            · exact absurd i2 (j1 i i1)
          · rcases y2 with ⟨j, j1, j2, j3⟩ | ⟨j1, j2⟩
            · exact absurd j2 (i1 j j1)
            · exact i2.trans j2.symm
section M87ld
variable {l : Launch} {s0 : State} {D : va_G} {tys : List (ClassId × FieldType)} {a0 : Array Value} {A : Nat → Nat} {dT : Nat → ClassId} {s : PS}
set_option maxRecDepth 4000 in
theorem k_mends9 (G : GX l s0 D tys a0 dT) {U : AirD} (hMB : ∀ q x, q < 24 → x < uN U → 0 ≤ uM U q x ∧ uM U q x ≤ 50) (I : Bd s) (jRLx : RLx s) (jMDJ : MDJ U s) {x y z w : Int} (p0 : rng x) (p1 : rng y) (p2 : rng z) (p3 : rng w) (p4 : iI s 89 = 1) : CT l s0 D A dT 286 (rmN 286) [.ref (A 179), .int (Int32.ofInt x), .int (Int32.ofInt y), .int (Int32.ofInt z), .int (Int32.ofInt w)] s (fun o t => Bd t ∧ Fm [73, 105, 106, 77, 75, 78, 79, 80, 81] [401, 400, 403, 404, 232, 402, 405, 406, 407, 408, 409, 410, 411, 412, 413, 414, 415, 416, 202, 204, 205, 206, 207, 208, 209, 210, 211, 212, 213, 214, 215, 216, 217, 218, 219, 220, 221, 222, 223, 224, 225, 226, 227, 203, 161, 230] s t ∧ RLx t ∧ ∃ e, o = .inl (some (.int (Int32.ofInt e))) ∧ rng e ∧ (((0 ≤ x ∧ x ≤ 23) ∧ (0 ≤ y ∧ y ≤ 8) ∧ (0 ≤ z ∧ z ≤ 8) ∧ (-2 ≤ w ∧ w ≤ 11) ∧ iI t 73 = 0 ∧ MNE U (stM s) (x : Int).toNat (fitK9 U (stM s) (x : Int).toNat (pfM s) (fun j => iC s 229 j)) y z w e) ∨ ((x < 0 ∨ 23 < x ∨ y < 0 ∨ 8 < y ∨ z < 0 ∨ 8 < z ∨ w < -2 ∨ 11 < w) ∧ iI t 73 = 1))) := by
  refine ct_of G (by decide) (Nat.le_of_ble_eq_true rfl) (fun k X E hRt hXt q => ?_)
  show WS k 0 [(0, .ref (A 179)), (1, .int (Int32.ofInt x)), (2, .int (Int32.ofInt y)), (3, .int (Int32.ofInt z)), (4, .int (Int32.ofInt w))] [] _ 0 0
  have F : Fm [73, 105, 106, 77, 75, 78, 79, 80, 81] [401, 400, 403, 404, 232, 402, 405, 406, 407, 408, 409, 410, 411, 412, 413, 414, 415, 416, 202, 204, 205, 206, 207, 208, 209, 210, 211, 212, 213, 214, 215, 216, 217, 218, 219, 220, 221, 222, 223, 224, 225, 226, 227, 203, 161, 230] s s := fm_rf _ _ s
  have b1 : (0 : Int) ≤ iI s 73 ∧ iI s 73 ≤ 3 := I.1 73
  have b2 : (0 : Int) ≤ iI s 105 ∧ iI s 105 ≤ 12 := I.1 105
  have b3 : (0 : Int) ≤ iI s 90 ∧ iI s 90 ≤ 12 := I.1 90
  have b4 : ((-2147483648) : Int) ≤ iI s 106 ∧ iI s 106 ≤ 2147483647 := I.1 106
  have b5 : (1 : Int) ≤ iI s 89 ∧ iI s 89 ≤ 8 := I.1 89
  have L73 : ∀ (n : Nat) (t : PS) (bi av : Int), Bd t → Fm [73, 105, 106, 77, 75, 78, 79, 80, 81] [401, 400, 403, 404, 232, 402, 405, 406, 407, 408, 409, 410, 411, 412, 413, 414, 415, 416, 202, 204, 205, 206, 207, 208, 209, 210, 211, 212, 213, 214, 215, 216, 217, 218, 219, 220, 221, 222, 223, 224, 225, 226, 227, 203, 161, 230] s t → RLx t → MDJ U t → (HSQ (hitP U (stM s) (x : Int).toNat) av bi t) → ((0 ≤ x ∧ x ≤ 23) ∧ (0 ≤ y ∧ y ≤ 8) ∧ (0 ≤ z ∧ z ≤ 8) ∧ (-2 ≤ w ∧ w ≤ 11) ∧ iI t 73 = 0 ∧ iI t 89 = 1 ∧ iI t 90 = iI s 90 ∧ (iI s 90 = (uN U : Int) ∧ uN U ≤ 12) ∧ rng bi ∧ (0 ≤ av ∧ av ≤ iI s 90) ∧ (0 ≤ iI t 105 ∧ iI t 105 ≤ av)) → (12 - av : Int).toNat < n → (∀ (t' : PS) (bi' av' : Int), Bd t' → Fm [73, 105, 106, 77, 75, 78, 79, 80, 81] [401, 400, 403, 404, 232, 402, 405, 406, 407, 408, 409, 410, 411, 412, 413, 414, 415, 416, 202, 204, 205, 206, 207, 208, 209, 210, 211, 212, 213, 214, 215, 216, 217, 218, 219, 220, 221, 222, 223, 224, 225, 226, 227, 203, 161, 230] s t' → RLx t' → MDJ U t' → (HSQ (hitP U (stM s) (x : Int).toNat) av' bi' t') → ((0 ≤ x ∧ x ≤ 23) ∧ (0 ≤ y ∧ y ≤ 8) ∧ (0 ≤ z ∧ z ≤ 8) ∧ (-2 ≤ w ∧ w ≤ 11) ∧ iI t' 73 = 0 ∧ iI t' 89 = 1 ∧ iI t' 90 = iI s 90 ∧ (iI s 90 = (uN U : Int) ∧ uN U ≤ 12) ∧ rng bi' ∧ av' = iI s 90 ∧ (0 ≤ iI t' 105 ∧ iI t' 105 ≤ 12)) → WS k 148 [(0, .ref (A 179)), (1, .int (Int32.ofInt x)), (2, .int (Int32.ofInt y)), (3, .int (Int32.ofInt z)), (4, .int (Int32.ofInt w)), (5, .int (Int32.ofInt bi')), (6, .int (Int32.ofInt av'))] [] (Wd A dT t') 0 0) → WS k 73 [(0, .ref (A 179)), (1, .int (Int32.ofInt x)), (2, .int (Int32.ofInt y)), (3, .int (Int32.ofInt z)), (4, .int (Int32.ofInt w)), (5, .int (Int32.ofInt bi)), (6, .int (Int32.ofInt av))] [] (Wd A dT t) 0 0 := by
    intro n
    induction n with
    | zero =>
      intro t bi av I F jjRLx jjMDJ hq hi hm kx
      exact absurd hm (Nat.not_lt_zero _)
    | succ n ih =>
      intro t bi av I F jjRLx jjMDJ hq hi hm kx
      have b1001 : (0 : Int) ≤ iI t 73 ∧ iI t 73 ≤ 3 := I.1 73
      have b1002 : (0 : Int) ≤ iI t 105 ∧ iI t 105 ≤ 12 := I.1 105
      have b1003 : (0 : Int) ≤ iI t 90 ∧ iI t 90 ≤ 12 := I.1 90
      have b1004 : ((-2147483648) : Int) ≤ iI t 106 ∧ iI t 106 ≤ 2147483647 := I.1 106
      have b1005 : (1 : Int) ≤ iI t 89 ∧ iI t 89 ≤ 8 := I.1 89
      refine z_load X (x := av) (show cdA 286 73 = some (.iload 6, 2, 0, 0, 0) from rfl) (List.Mem.tail _ (List.Mem.tail _ (List.Mem.tail _ (List.Mem.tail _ (List.Mem.tail _ (List.Mem.tail _ (List.Mem.head _))))))) ?_
      refine z_aload_n X (x := A 179) (show cdA 286 75 = some (.aload_n 0, 1, 0, 0, 0) from rfl) (List.Mem.head _) ?_
      refine z_getI X 179 (show cdA 286 76 = some (.getfield 233, 3, 12, 22, 0) from rfl) (by decide) rfl rfl ?_
      have b1006 : (0 : Int) ≤ iI t 90 ∧ iI t 90 ≤ 12 := I.1 90
      refine z_icmp_ge X (t := 148) (show cdA 286 79 = some (.if_icmp .ge 69, 3, 3, 0, 0) from rfl) (by decide) ⟨by first | exact oq_fa4e5087 hi.2.2.2.2.2.2.2.2.2.1.1 | omega, by first | exact oq_39d2cc6e hi.2.2.2.2.2.2.2.2.2.1.2 b3.2 | omega⟩ (rng_to _) (fun g1007 => ?_) (fun g1007 => ?_)
      ·
        refine WS_lv (lv := [(0, .ref (A 179)), (1, .int (Int32.ofInt x)), (2, .int (Int32.ofInt y)), (3, .int (Int32.ofInt z)), (4, .int (Int32.ofInt w)), (5, .int (Int32.ofInt bi)), (6, .int (Int32.ofInt av))]) (List.forall_mem_cons.mpr ⟨(List.Mem.head _), (List.forall_mem_cons.mpr ⟨(List.Mem.tail _ (List.Mem.head _)), (List.forall_mem_cons.mpr ⟨(List.Mem.tail _ (List.Mem.tail _ (List.Mem.head _))), (List.forall_mem_cons.mpr ⟨(List.Mem.tail _ (List.Mem.tail _ (List.Mem.tail _ (List.Mem.head _)))), (List.forall_mem_cons.mpr ⟨(List.Mem.tail _ (List.Mem.tail _ (List.Mem.tail _ (List.Mem.tail _ (List.Mem.head _))))), (List.forall_mem_cons.mpr ⟨(List.Mem.tail _ (List.Mem.tail _ (List.Mem.tail _ (List.Mem.tail _ (List.Mem.tail _ (List.Mem.head _)))))), (List.forall_mem_cons.mpr ⟨(List.Mem.tail _ (List.Mem.tail _ (List.Mem.tail _ (List.Mem.tail _ (List.Mem.tail _ (List.Mem.tail _ (List.Mem.head _))))))), (fun q h => absurd h List.not_mem_nil)⟩)⟩)⟩)⟩)⟩)⟩)⟩) ?_
        exact kx _ bi av I F jjRLx jjMDJ hq (by first | exact ⟨And.intro (hi.1.1) (hi.1.2), And.intro (hi.2.1.1) (hi.2.1.2), And.intro (hi.2.2.1.1) (hi.2.2.1.2), And.intro (hi.2.2.2.1.1) (hi.2.2.2.1.2), hi.2.2.2.2.1, hi.2.2.2.2.2.1, hi.2.2.2.2.2.2.1, And.intro (hi.2.2.2.2.2.2.2.1.1) (hi.2.2.2.2.2.2.2.1.2), And.intro (hi.2.2.2.2.2.2.2.2.1.1) (hi.2.2.2.2.2.2.2.2.1.2), oq_537ca82a hi.2.2.2.2.2.2.2.2.2.1.2 g1007 hi.2.2.2.2.2.2.1, b1002.1, b1002.2⟩ | omega)
      ·
        refine z_aload_n X (x := A 179) (show cdA 286 82 = some (.aload_n 0, 1, 0, 0, 0) from rfl) (List.Mem.head _) ?_
        refine s_getR X 179 (show cdA 286 83 = some (.getfield 145, 3, 12, 69, 0) from rfl) (by decide) rfl rfl ?_
        refine z_load X (x := av) (show cdA 286 86 = some (.iload 6, 2, 0, 0, 0) from rfl) (List.Mem.tail _ (List.Mem.tail _ (List.Mem.tail _ (List.Mem.tail _ (List.Mem.tail _ (List.Mem.tail _ (List.Mem.head _))))))) ?_
        refine z_const X (show cdA 286 88 = some (.iconst 0, 1, 0, 0, 0) from rfl) ?_
        refine z_ast X 456 (show cdA 286 89 = some (.iastore, 1, 0, 0, 0) from rfl) (by decide) rfl (by first | exact hi.2.2.2.2.2.2.2.2.2.1.1 | omega) (show av < 12 by first | exact oq_f36e82a8 g1007 b1006.2 | omega) (by decide) ?_
        obtain ⟨s1008, hs1008⟩ : ∃ x0, x0 = uC t 401 (av).toNat (Int32.ofInt 0) := ⟨_, rfl⟩
        rw [← hs1008]
        have Is1008 : Bd s1008 := by rw [hs1008]; exact bd_C I (show (0 : Int) ≤ 0 ∧ 0 ≤ 3 by first | exact ⟨by decide, by decide⟩ | omega) (by decide)
        have Fs1008 := fm_C (i := (av).toNat) (x := Int32.ofInt 0) F (show 401 ∈ _ by decide)
        rw [← hs1008] at Fs1008
        have ws1008_73 : iI s1008 73 = iI t 73 := by rw [hs1008]; rfl
        have ws1008_105 : iI s1008 105 = iI t 105 := by rw [hs1008]; rfl
        have ws1008_90 : iI s1008 90 = iI t 90 := by rw [hs1008]; rfl
        have ws1008_106 : iI s1008 106 = iI t 106 := by rw [hs1008]; rfl
        have ws1008_89 : iI s1008 89 = iI t 89 := by rw [hs1008]; rfl
        have aws1008_401 : UPD 401 (av) 0 t s1008 := by rw [hs1008]; exact upd_put (sam_rf (a := 401) (s := t)) (by decide)
        have aws1008_400 : SAM 400 t s1008 := by rw [hs1008]; exact sam_C (by decide) (sam_rf (a := 400) (s := t))
        have fs1008 : Fm [] [401] t s1008 := by rw [hs1008]; exact fm_C (fm_rf _ _ _) (show 401 ∈ _ by decide)
        have JRLx_s1008 : RLx s1008 := RLx_fm fs1008 (by decide) jjRLx
        have JMDJ_s1008 : MDJ U s1008 := MDJ_fm fs1008 (by decide) jjMDJ
        refine z_aload_n X (x := A 179) (show cdA 286 90 = some (.aload_n 0, 1, 0, 0, 0) from rfl) (List.Mem.head _) ?_
        refine z_load X (x := av) (show cdA 286 91 = some (.iload 6, 2, 0, 0, 0) from rfl) (List.Mem.tail _ (List.Mem.tail _ (List.Mem.tail _ (List.Mem.tail _ (List.Mem.tail _ (List.Mem.tail _ (List.Mem.head _))))))) ?_
        refine z_load_n X (x := x) (show cdA 286 93 = some (.iload_n 1, 1, 0, 0, 0) from rfl) (List.Mem.tail _ (List.Mem.head _)) ?_
        refine z_callV X 179 (rm := rmN 280) (As := [.int (Int32.ofInt av), .int (Int32.ofInt x)]) (st := []) (show cdA 286 94 = some (.invokevirtual 451, 3, 280, 0, 0) from rfl) rfl (by decide) rfl (by rw [E.1, E.2.1, E.2.2.1]; exact k_isHit9 G Is1008 JMDJ_s1008 (by first | exact ⟨hi.2.2.2.2.2.2.2.2.2.1.1, oq_71f4b7b9 ws1008_90 g1007⟩ | omega) (by first | exact ⟨hi.1.1, hi.1.2⟩ | omega)) ⟨by rw [E.2.2.2]; exact (show (rmN 280).frames + 1 ≤ (rmN 286).frames by decide), by rw [E.2.2.2]; exact (show 8 + (mNL (miB 280) + 11) + (rmN 280).locals ≤ (rmN 286).locals by decide), by rw [E.2.2.2]; exact (show 0 + (rmN 280).cells ≤ (rmN 286).cells by decide), by rw [E.2.2.2]; exact (show 0 + (rmN 280).slots ≤ (rmN 286).slots by decide)⟩ (Nat.le_of_ble_eq_true rfl) (fun vv s1009 hq => ?_) (fun ee s1009 hq => ?_)
        rotate_left
        · obtain ⟨Is1009, Fs1009, e1010, hv, hrs1009, hps1009⟩ := hq; cases hv
        obtain ⟨Is1009, Fs1009, e1010, hv, hrs1009, hps1009⟩ := hq
        cases hv
        have Gs1009 := fm_ts Fs1008 Fs1009 (by decide) (by decide)
        have JRLx_s1009 : RLx s1009 := RLx_fm Fs1009 (by decide) JRLx_s1008
        have JMDJ_s1009 : MDJ U s1009 := MDJ_fm Fs1009 (by decide) JMDJ_s1008
        have ws1009_73 : iI s1009 73 = iI s1008 73 := fm_i Fs1009 (by decide)
        have ws1009_105 : iI s1009 105 = iI s1008 105 := fm_i Fs1009 (by decide)
        have ws1009_90 : iI s1009 90 = iI s1008 90 := fm_i Fs1009 (by decide)
        have ws1009_106 : iI s1009 106 = iI s1008 106 := fm_i Fs1009 (by decide)
        have ws1009_89 : iI s1009 89 = iI s1008 89 := fm_i Fs1009 (by decide)
        have aws1009_401 : UPD 401 (av) 0 t s1009 := upd_ts aws1008_401 (sam_fm Fs1009 (by decide))
        have aws1009_400 : SAM 400 t s1009 := sam_ts aws1008_400 (sam_fm Fs1009 (by decide))
        show WS k 97 [(0, .ref (A 179)), (1, .int (Int32.ofInt x)), (2, .int (Int32.ofInt y)), (3, .int (Int32.ofInt z)), (4, .int (Int32.ofInt w)), (5, .int (Int32.ofInt bi)), (6, .int (Int32.ofInt av))] [.int (Int32.ofInt e1010)] (Wd A dT s1009) 0 0
        have hhit : (e1010 = 1 ∧ (hitP U (stM s) (x : Int).toNat) (av : Int).toNat) ∨ (e1010 = 0 ∧ ¬ (hitP U (stM s) (x : Int).toNat) (av : Int).toNat) := by have zz := hps1009; rw [show stM s1008 = stM s from stm_s (sam_fm Fs1008 (by decide))] at zz; exact zz
        refine z_if_ne X (t := 103) (show cdA 286 97 = some (.ifCond .ne 6, 3, 1, 0, 0) from rfl) (by decide) hrs1009 (fun g1011 => ?_) (fun g1011 => ?_)
        ·
          have hP : (hitP U (stM s) (x : Int).toNat) (av : Int).toNat := hhit.elim (fun zz => zz.2) (fun zz => absurd zz.1 (by first | (clear g1011 hps1009; omega) | (clear hps1009; omega) | omega))
          have hcn := cht_n' (P := (hitP U (stM s) (x : Int).toNat)) (av : Int).toNat
          have hq1 := hq.1
          refine z_load X (x := bi) (show cdA 286 103 = some (.iload 5, 2, 0, 0, 0) from rfl) (List.Mem.tail _ (List.Mem.tail _ (List.Mem.tail _ (List.Mem.tail _ (List.Mem.tail _ (List.Mem.head _)))))) ?_
          refine z_const X (show cdA 286 105 = some (.iconst 1, 1, 0, 0, 0) from rfl) ?_
          refine z_load X (x := av) (show cdA 286 106 = some (.iload 6, 2, 0, 0, 0) from rfl) (List.Mem.tail _ (List.Mem.tail _ (List.Mem.tail _ (List.Mem.tail _ (List.Mem.tail _ (List.Mem.tail _ (List.Mem.head _))))))) ?_
          refine z_bshl X (show cdA 286 108 = some (.ishl, 1, 0, 0, 0) from rfl) ?_
          refine z_anyV (fun y1012 hy1012 ey1012 => ?_)
          refine w_ior X.1 (ax_d X (show cdA 286 109 = some (.ior, 1, 0, 0, 0) from rfl)) ?_
          refine z_anyV (fun y1013 hy1013 ey1013 => ?_)
          refine z_store X (lv' := [(5, .int (Int32.ofInt y1013)), (0, .ref (A 179)), (1, .int (Int32.ofInt x)), (2, .int (Int32.ofInt y)), (3, .int (Int32.ofInt z)), (4, .int (Int32.ofInt w)), (6, .int (Int32.ofInt av))]) (show cdA 286 110 = some (.istore 5, 2, 0, 0, 0) from rfl) (by decide) (fun _ h => h) ?_
          refine z_aload_n X (x := A 179) (show cdA 286 112 = some (.aload_n 0, 1, 0, 0, 0) from rfl) (List.Mem.tail _ (List.Mem.head _)) ?_
          refine z_getI X 179 (show cdA 286 113 = some (.getfield 431, 3, 12, 74, 0) from rfl) (by decide) rfl rfl ?_
          have b1014 : (0 : Int) ≤ iI s1009 105 ∧ iI s1009 105 ≤ 12 := Is1009.1 105
          refine z_bipush X (show cdA 286 116 = some (.bipush 8, 2, 0, 0, 8) from rfl) ?_
          refine z_icmp_ge X (t := 132) (show cdA 286 118 = some (.if_icmp .ge 14, 3, 3, 0, 0) from rfl) (by decide) (rng_to _) (by decide) (fun g1015 => ?_) (fun g1015 => ?_)
          ·
            refine z_aload_n X (x := A 179) (show cdA 286 132 = some (.aload_n 0, 1, 0, 0, 0) from rfl) (List.Mem.tail _ (List.Mem.head _)) ?_
            refine w_dup X.1 (ax_d X (show cdA 286 133 = some (.dup, 1, 0, 0, 0) from rfl)) rfl ?_
            refine z_getI X 179 (show cdA 286 134 = some (.getfield 431, 3, 12, 74, 0) from rfl) (by decide) rfl rfl ?_
            have b1016 : (0 : Int) ≤ iI s1009 105 ∧ iI s1009 105 ≤ 12 := Is1009.1 105
            refine z_const X (show cdA 286 137 = some (.iconst 1, 1, 0, 0, 0) from rfl) ?_
            refine z_add X (show cdA 286 138 = some (.iadd, 1, 0, 0, 0) from rfl) ?_
            refine s_putI X 179 (show cdA 286 139 = some (.putfield 431, 3, 12, 74, 0) from rfl) (by decide) rfl rfl (by decide) rfl rfl rfl ?_
            obtain ⟨s1017, hs1017⟩ : ∃ x0, x0 = uI s1009 105 (Int32.ofInt ((iI s1009 105) + 1)) := ⟨_, rfl⟩
            rw [← hs1017]
            have Is1017 : Bd s1017 := by rw [hs1017]; exact bd_I Is1009 (show (0 : Int) ≤ ((iI s1009 105) + 1) ∧ ((iI s1009 105) + 1) ≤ 12 by first | exact ⟨oq_54f49eb5 b1016.1, oq_1fea0193 ws1009_105 ws1008_105 hi.2.2.2.2.2.2.2.2.2.2.2 g1007 b1006.2⟩ | omega) ⟨by first | exact oq_74de1e16 b1016.1 | omega, by first | exact oq_76a8a5b7 b1016.2 | omega⟩
            have Fs1017 := fm_I (x := Int32.ofInt ((iI s1009 105) + 1)) Gs1009 (show 105 ∈ _ by decide)
            rw [← hs1017] at Fs1017
            have vs1017 : iI s1017 105 = ((iI s1009 105) + 1) := by rw [hs1017]; exact iI_u ⟨by first | exact oq_74de1e16 b1016.1 | omega, by first | exact oq_76a8a5b7 b1016.2 | omega⟩
            have ws1017_73 : iI s1017 73 = iI s1009 73 := by rw [hs1017]; rfl
            have ws1017_90 : iI s1017 90 = iI s1009 90 := by rw [hs1017]; rfl
            have ws1017_106 : iI s1017 106 = iI s1009 106 := by rw [hs1017]; rfl
            have ws1017_89 : iI s1017 89 = iI s1009 89 := by rw [hs1017]; rfl
            have aws1017_401 : UPD 401 (av) 0 t s1017 := by rw [hs1017]; exact aws1009_401
            have aws1017_400 : SAM 400 t s1017 := by rw [hs1017]; exact aws1009_400
            have fs1017 : Fm [105] [] s1009 s1017 := by rw [hs1017]; exact fm_I (fm_rf _ _ _) (show 105 ∈ _ by decide)
            have JRLx_s1017 : RLx s1017 := RLx_fm fs1017 (by decide) JRLx_s1009
            have JMDJ_s1017 : MDJ U s1017 := MDJ_fm fs1017 (by decide) JMDJ_s1009
            refine z_inc X (x := av) (lv' := [(6, .int (Int32.ofInt (av + 1))), (5, .int (Int32.ofInt y1013)), (0, .ref (A 179)), (1, .int (Int32.ofInt x)), (2, .int (Int32.ofInt y)), (3, .int (Int32.ofInt z)), (4, .int (Int32.ofInt w))]) (show cdA 286 142 = some (.iinc 6 1, 3, 0, 0, 0) from rfl) (by decide) (List.Mem.tail _ (List.Mem.tail _ (List.Mem.tail _ (List.Mem.tail _ (List.Mem.tail _ (List.Mem.tail _ (List.Mem.head _))))))) (fun _ h => h) ?_
            refine z_goto X (t := 73) (show cdA 286 145 = some (.goto (-72), 3, 0, 0, 0) from rfl) (by decide) ?_
            refine WS_lv (lv := [(0, .ref (A 179)), (1, .int (Int32.ofInt x)), (2, .int (Int32.ofInt y)), (3, .int (Int32.ofInt z)), (4, .int (Int32.ofInt w)), (5, .int (Int32.ofInt y1013)), (6, .int (Int32.ofInt (av + 1)))]) (List.forall_mem_cons.mpr ⟨(List.Mem.tail _ (List.Mem.tail _ (List.Mem.head _))), (List.forall_mem_cons.mpr ⟨(List.Mem.tail _ (List.Mem.tail _ (List.Mem.tail _ (List.Mem.head _)))), (List.forall_mem_cons.mpr ⟨(List.Mem.tail _ (List.Mem.tail _ (List.Mem.tail _ (List.Mem.tail _ (List.Mem.head _))))), (List.forall_mem_cons.mpr ⟨(List.Mem.tail _ (List.Mem.tail _ (List.Mem.tail _ (List.Mem.tail _ (List.Mem.tail _ (List.Mem.head _)))))), (List.forall_mem_cons.mpr ⟨(List.Mem.tail _ (List.Mem.tail _ (List.Mem.tail _ (List.Mem.tail _ (List.Mem.tail _ (List.Mem.tail _ (List.Mem.head _))))))), (List.forall_mem_cons.mpr ⟨(List.Mem.tail _ (List.Mem.head _)), (List.forall_mem_cons.mpr ⟨(List.Mem.head _), (fun q h => absurd h List.not_mem_nil)⟩)⟩)⟩)⟩)⟩)⟩)⟩) ?_
            exact ih _ y1013 (av + 1) Is1017 Fs1017 JRLx_s1017 JMDJ_s1017 (hsq_y hq (by first | (clear g1011 hps1009; omega) | (clear hps1009; omega) | omega) hP (by first | (clear g1011 hps1009; omega) | (clear hps1009; omega) | omega) (Or.inr ⟨by first | (clear g1011 hps1009; omega) | (clear hps1009; omega) | omega, aws1017_400⟩) aws1017_401 ey1012 ey1013) (by first | exact ⟨And.intro (hi.1.1) (hi.1.2), And.intro (hi.2.1.1) (hi.2.1.2), And.intro (hi.2.2.1.1) (hi.2.2.1.2), And.intro (hi.2.2.2.1.1) (hi.2.2.2.1.2), oq_0f72f93b ws1017_73 ws1009_73 ws1008_73 hi.2.2.2.2.1 b1001.1, oq_29301542 ws1017_89 ws1009_89 ws1008_89 hi.2.2.2.2.2.1 b1005.1, oq_ac0e91e1 ws1017_90 ws1009_90 ws1008_90 hi.2.2.2.2.2.2.1, And.intro (hi.2.2.2.2.2.2.2.1.1) (hi.2.2.2.2.2.2.2.1.2), And.intro (hy1013.1) (hy1013.2), And.intro (oq_54f49eb5 hi.2.2.2.2.2.2.2.2.2.1.1) (oq_8a89b3ae g1007 hi.2.2.2.2.2.2.1), oq_b50d5e62 vs1017 b1016.1, oq_9004941c vs1017 hi.2.2.2.2.2.2.2.2.2.2.2 ws1008_105 ws1009_105⟩ | omega) (by first | exact qk_me hm (by decide) (oq_b575e8c1 g1007 b1006.2) | omega) kx
          ·
            refine z_aload_n X (x := A 179) (show cdA 286 121 = some (.aload_n 0, 1, 0, 0, 0) from rfl) (List.Mem.tail _ (List.Mem.head _)) ?_
            refine s_getR X 179 (show cdA 286 122 = some (.getfield 142, 3, 12, 68, 0) from rfl) (by decide) rfl rfl ?_
            refine z_aload_n X (x := A 179) (show cdA 286 125 = some (.aload_n 0, 1, 0, 0, 0) from rfl) (List.Mem.tail _ (List.Mem.head _)) ?_
            refine z_getI X 179 (show cdA 286 126 = some (.getfield 431, 3, 12, 74, 0) from rfl) (by decide) rfl rfl ?_
            have b1018 : (0 : Int) ≤ iI s1009 105 ∧ iI s1009 105 ≤ 12 := Is1009.1 105
            refine z_load X (x := av) (show cdA 286 129 = some (.iload 6, 2, 0, 0, 0) from rfl) (List.Mem.tail _ (List.Mem.tail _ (List.Mem.tail _ (List.Mem.tail _ (List.Mem.tail _ (List.Mem.tail _ (List.Mem.head _))))))) ?_
            refine z_ast X 455 (show cdA 286 131 = some (.iastore, 1, 0, 0, 0) from rfl) (by decide) rfl (by first | exact b1018.1 | omega) (show (iI s1009 105) < 8 by first | exact g1015 | omega) (by decide) ?_
            obtain ⟨s1019, hs1019⟩ : ∃ x0, x0 = uC s1009 400 ((iI s1009 105)).toNat (Int32.ofInt av) := ⟨_, rfl⟩
            rw [← hs1019]
            have Is1019 : Bd s1019 := by rw [hs1019]; exact bd_C Is1009 (show (0 : Int) ≤ av ∧ av ≤ 11 by first | exact ⟨hi.2.2.2.2.2.2.2.2.2.1.1, oq_e4d7f3c5 g1007 b1006.2⟩ | omega) ⟨by first | exact oq_fa4e5087 hi.2.2.2.2.2.2.2.2.2.1.1 | omega, by first | exact oq_8be37138 g1007 b1006.2 | omega⟩
            have Fs1019 := fm_C (i := ((iI s1009 105)).toNat) (x := Int32.ofInt av) Gs1009 (show 400 ∈ _ by decide)
            rw [← hs1019] at Fs1019
            have ws1019_73 : iI s1019 73 = iI s1009 73 := by rw [hs1019]; rfl
            have ws1019_105 : iI s1019 105 = iI s1009 105 := by rw [hs1019]; rfl
            have ws1019_90 : iI s1019 90 = iI s1009 90 := by rw [hs1019]; rfl
            have ws1019_106 : iI s1019 106 = iI s1009 106 := by rw [hs1019]; rfl
            have ws1019_89 : iI s1019 89 = iI s1009 89 := by rw [hs1019]; rfl
            have aws1019_401 : UPD 401 (av) 0 t s1019 := by rw [hs1019]; exact upd_C (by decide) aws1009_401
            have aws1019_400 : UPD 400 ((iI s1009 105)) av t s1019 := by rw [hs1019]; exact upd_put aws1009_400 ⟨by first | exact oq_fa4e5087 hi.2.2.2.2.2.2.2.2.2.1.1 | omega, by first | exact oq_8be37138 g1007 b1006.2 | omega⟩
            have fs1019 : Fm [] [400] s1009 s1019 := by rw [hs1019]; exact fm_C (fm_rf _ _ _) (show 400 ∈ _ by decide)
            have JRLx_s1019 : RLx s1019 := RLx_fm fs1019 (by decide) JRLx_s1009
            have JMDJ_s1019 : MDJ U s1019 := MDJ_fm fs1019 (by decide) JMDJ_s1009
            refine z_aload_n X (x := A 179) (show cdA 286 132 = some (.aload_n 0, 1, 0, 0, 0) from rfl) (List.Mem.tail _ (List.Mem.head _)) ?_
            refine w_dup X.1 (ax_d X (show cdA 286 133 = some (.dup, 1, 0, 0, 0) from rfl)) rfl ?_
            refine z_getI X 179 (show cdA 286 134 = some (.getfield 431, 3, 12, 74, 0) from rfl) (by decide) rfl rfl ?_
            have b1020 : (0 : Int) ≤ iI s1019 105 ∧ iI s1019 105 ≤ 12 := Is1019.1 105
            refine z_const X (show cdA 286 137 = some (.iconst 1, 1, 0, 0, 0) from rfl) ?_
            refine z_add X (show cdA 286 138 = some (.iadd, 1, 0, 0, 0) from rfl) ?_
            refine s_putI X 179 (show cdA 286 139 = some (.putfield 431, 3, 12, 74, 0) from rfl) (by decide) rfl rfl (by decide) rfl rfl rfl ?_
            obtain ⟨s1021, hs1021⟩ : ∃ x0, x0 = uI s1019 105 (Int32.ofInt ((iI s1019 105) + 1)) := ⟨_, rfl⟩
            rw [← hs1021]
            have Is1021 : Bd s1021 := by rw [hs1021]; exact bd_I Is1019 (show (0 : Int) ≤ ((iI s1019 105) + 1) ∧ ((iI s1019 105) + 1) ≤ 12 by first | exact ⟨oq_54f49eb5 b1020.1, oq_8860b8cf ws1019_105 g1015⟩ | omega) ⟨by first | exact oq_74de1e16 b1020.1 | omega, by first | exact oq_76a8a5b7 b1020.2 | omega⟩
            have Fs1021 := fm_I (x := Int32.ofInt ((iI s1019 105) + 1)) Fs1019 (show 105 ∈ _ by decide)
            rw [← hs1021] at Fs1021
            have vs1021 : iI s1021 105 = ((iI s1019 105) + 1) := by rw [hs1021]; exact iI_u ⟨by first | exact oq_74de1e16 b1020.1 | omega, by first | exact oq_76a8a5b7 b1020.2 | omega⟩
            have ws1021_73 : iI s1021 73 = iI s1019 73 := by rw [hs1021]; rfl
            have ws1021_90 : iI s1021 90 = iI s1019 90 := by rw [hs1021]; rfl
            have ws1021_106 : iI s1021 106 = iI s1019 106 := by rw [hs1021]; rfl
            have ws1021_89 : iI s1021 89 = iI s1019 89 := by rw [hs1021]; rfl
            have aws1021_401 : UPD 401 (av) 0 t s1021 := by rw [hs1021]; exact aws1019_401
            have aws1021_400 : UPD 400 ((iI s1009 105)) av t s1021 := by rw [hs1021]; exact aws1019_400
            have fs1021 : Fm [105] [] s1019 s1021 := by rw [hs1021]; exact fm_I (fm_rf _ _ _) (show 105 ∈ _ by decide)
            have JRLx_s1021 : RLx s1021 := RLx_fm fs1021 (by decide) JRLx_s1019
            have JMDJ_s1021 : MDJ U s1021 := MDJ_fm fs1021 (by decide) JMDJ_s1019
            refine z_inc X (x := av) (lv' := [(6, .int (Int32.ofInt (av + 1))), (5, .int (Int32.ofInt y1013)), (0, .ref (A 179)), (1, .int (Int32.ofInt x)), (2, .int (Int32.ofInt y)), (3, .int (Int32.ofInt z)), (4, .int (Int32.ofInt w))]) (show cdA 286 142 = some (.iinc 6 1, 3, 0, 0, 0) from rfl) (by decide) (List.Mem.tail _ (List.Mem.tail _ (List.Mem.tail _ (List.Mem.tail _ (List.Mem.tail _ (List.Mem.tail _ (List.Mem.head _))))))) (fun _ h => h) ?_
            refine z_goto X (t := 73) (show cdA 286 145 = some (.goto (-72), 3, 0, 0, 0) from rfl) (by decide) ?_
            refine WS_lv (lv := [(0, .ref (A 179)), (1, .int (Int32.ofInt x)), (2, .int (Int32.ofInt y)), (3, .int (Int32.ofInt z)), (4, .int (Int32.ofInt w)), (5, .int (Int32.ofInt y1013)), (6, .int (Int32.ofInt (av + 1)))]) (List.forall_mem_cons.mpr ⟨(List.Mem.tail _ (List.Mem.tail _ (List.Mem.head _))), (List.forall_mem_cons.mpr ⟨(List.Mem.tail _ (List.Mem.tail _ (List.Mem.tail _ (List.Mem.head _)))), (List.forall_mem_cons.mpr ⟨(List.Mem.tail _ (List.Mem.tail _ (List.Mem.tail _ (List.Mem.tail _ (List.Mem.head _))))), (List.forall_mem_cons.mpr ⟨(List.Mem.tail _ (List.Mem.tail _ (List.Mem.tail _ (List.Mem.tail _ (List.Mem.tail _ (List.Mem.head _)))))), (List.forall_mem_cons.mpr ⟨(List.Mem.tail _ (List.Mem.tail _ (List.Mem.tail _ (List.Mem.tail _ (List.Mem.tail _ (List.Mem.tail _ (List.Mem.head _))))))), (List.forall_mem_cons.mpr ⟨(List.Mem.tail _ (List.Mem.head _)), (List.forall_mem_cons.mpr ⟨(List.Mem.head _), (fun q h => absurd h List.not_mem_nil)⟩)⟩)⟩)⟩)⟩)⟩)⟩) ?_
            exact ih _ y1013 (av + 1) Is1021 Fs1021 JRLx_s1021 JMDJ_s1021 (hsq_y hq (by first | (clear g1011 hps1009; omega) | (clear hps1009; omega) | omega) hP (by first | (clear g1011 hps1009; omega) | (clear hps1009; omega) | omega) (Or.inl ⟨by first | (clear g1011 hps1009; omega) | (clear hps1009; omega) | omega, upd_ix aws1021_400 (by first | (clear g1011 hps1009; omega) | (clear hps1009; omega) | omega)⟩) aws1021_401 ey1012 ey1013) (by first | exact ⟨And.intro (hi.1.1) (hi.1.2), And.intro (hi.2.1.1) (hi.2.1.2), And.intro (hi.2.2.1.1) (hi.2.2.1.2), And.intro (hi.2.2.2.1.1) (hi.2.2.2.1.2), oq_d0299403 ws1021_73 ws1019_73 ws1009_73 ws1008_73 hi.2.2.2.2.1 b1001.1, oq_094d069b ws1021_89 ws1019_89 ws1009_89 ws1008_89 hi.2.2.2.2.2.1 b1005.1, oq_469c7eaf ws1021_90 ws1019_90 ws1009_90 ws1008_90 hi.2.2.2.2.2.2.1, And.intro (hi.2.2.2.2.2.2.2.1.1) (hi.2.2.2.2.2.2.2.1.2), And.intro (hy1013.1) (hy1013.2), And.intro (oq_54f49eb5 hi.2.2.2.2.2.2.2.2.2.1.1) (oq_8a89b3ae g1007 hi.2.2.2.2.2.2.1), oq_b50d5e62 vs1021 b1020.1, oq_a50d5726 vs1021 hi.2.2.2.2.2.2.2.2.2.2.2 ws1019_105 ws1008_105 ws1009_105⟩ | omega) (by first | exact qk_me hm (by decide) (oq_b575e8c1 g1007 b1006.2) | omega) kx
        ·
          refine z_goto X (t := 142) (show cdA 286 100 = some (.goto 42, 3, 0, 0, 0) from rfl) (by decide) ?_
          refine z_inc X (x := av) (lv' := [(6, .int (Int32.ofInt (av + 1))), (0, .ref (A 179)), (1, .int (Int32.ofInt x)), (2, .int (Int32.ofInt y)), (3, .int (Int32.ofInt z)), (4, .int (Int32.ofInt w)), (5, .int (Int32.ofInt bi))]) (show cdA 286 142 = some (.iinc 6 1, 3, 0, 0, 0) from rfl) (by decide) (List.Mem.tail _ (List.Mem.tail _ (List.Mem.tail _ (List.Mem.tail _ (List.Mem.tail _ (List.Mem.tail _ (List.Mem.head _))))))) (fun _ h => h) ?_
          refine z_goto X (t := 73) (show cdA 286 145 = some (.goto (-72), 3, 0, 0, 0) from rfl) (by decide) ?_
          refine WS_lv (lv := [(0, .ref (A 179)), (1, .int (Int32.ofInt x)), (2, .int (Int32.ofInt y)), (3, .int (Int32.ofInt z)), (4, .int (Int32.ofInt w)), (5, .int (Int32.ofInt bi)), (6, .int (Int32.ofInt (av + 1)))]) (List.forall_mem_cons.mpr ⟨(List.Mem.tail _ (List.Mem.head _)), (List.forall_mem_cons.mpr ⟨(List.Mem.tail _ (List.Mem.tail _ (List.Mem.head _))), (List.forall_mem_cons.mpr ⟨(List.Mem.tail _ (List.Mem.tail _ (List.Mem.tail _ (List.Mem.head _)))), (List.forall_mem_cons.mpr ⟨(List.Mem.tail _ (List.Mem.tail _ (List.Mem.tail _ (List.Mem.tail _ (List.Mem.head _))))), (List.forall_mem_cons.mpr ⟨(List.Mem.tail _ (List.Mem.tail _ (List.Mem.tail _ (List.Mem.tail _ (List.Mem.tail _ (List.Mem.head _)))))), (List.forall_mem_cons.mpr ⟨(List.Mem.tail _ (List.Mem.tail _ (List.Mem.tail _ (List.Mem.tail _ (List.Mem.tail _ (List.Mem.tail _ (List.Mem.head _))))))), (List.forall_mem_cons.mpr ⟨(List.Mem.head _), (fun q h => absurd h List.not_mem_nil)⟩)⟩)⟩)⟩)⟩)⟩)⟩) ?_
          exact ih _ bi (av + 1) Is1009 Gs1009 JRLx_s1009 JMDJ_s1009 (hsq_n hq (by first | (clear hps1009; omega) | omega) (hhit.elim (fun zz => absurd zz.1 (by first | (clear hps1009; omega) | omega)) (fun zz => zz.2)) (by first | (clear hps1009; omega) | omega) aws1009_400 aws1009_401) (by first | exact ⟨And.intro (hi.1.1) (hi.1.2), And.intro (hi.2.1.1) (hi.2.1.2), And.intro (hi.2.2.1.1) (hi.2.2.1.2), And.intro (hi.2.2.2.1.1) (hi.2.2.2.1.2), oq_7fe879e0 ws1009_73 ws1008_73 hi.2.2.2.2.1 b1001.1, oq_f34933ba ws1009_89 ws1008_89 hi.2.2.2.2.2.1 b1005.1, oq_878618b1 ws1009_90 ws1008_90 hi.2.2.2.2.2.2.1, And.intro (hi.2.2.2.2.2.2.2.1.1) (hi.2.2.2.2.2.2.2.1.2), And.intro (hi.2.2.2.2.2.2.2.2.1.1) (hi.2.2.2.2.2.2.2.2.1.2), And.intro (oq_54f49eb5 hi.2.2.2.2.2.2.2.2.2.1.1) (oq_8a89b3ae g1007 hi.2.2.2.2.2.2.1), oq_0f93fca7 ws1009_105 ws1008_105 b1002.1, oq_2e1f687c ws1009_105 hi.2.2.2.2.2.2.2.2.2.2.2 ws1008_105⟩ | omega) (by first | exact qk_me hm (by decide) (oq_b575e8c1 g1007 b1006.2) | omega) kx
  have L177 : ∀ (n : Nat) (t : PS) (iv : Int), Bd t → Fm [73, 105, 106, 77, 75, 78, 79, 80, 81] [401, 400, 403, 404, 232, 402, 405, 406, 407, 408, 409, 410, 411, 412, 413, 414, 415, 416, 202, 204, 205, 206, 207, 208, 209, 210, 211, 212, 213, 214, 215, 216, 217, 218, 219, 220, 221, 222, 223, 224, 225, 226, 227, 203, 161, 230] s t → RLx t → MDJ U t → (RNL U (stM s) (hitP U (stM s) (x : Int).toNat) iv t ∧ HTQ (hitP U (stM s) (x : Int).toNat) (uN U) (fun j => iC t 400 j) ∧ MZJ U (hitP U (stM s) (x : Int).toNat) t) → ((0 ≤ x ∧ x ≤ 23) ∧ (0 ≤ y ∧ y ≤ 8) ∧ (0 ≤ z ∧ z ≤ 8) ∧ (-2 ≤ w ∧ w ≤ 11) ∧ iI t 73 = 0 ∧ iI t 89 = 1 ∧ iI t 90 = iI s 90 ∧ (iI s 90 = (uN U : Int) ∧ uN U ≤ 12) ∧ (0 ≤ iv ∧ iv ≤ iI t 105) ∧ iI t 105 ≤ 8 ∧ iI t 105 = ((cHt (hitP U (stM s) (x : Int).toNat) (uN U)) : Int) ∧ iI t 106 = -1) → (8 - iv : Int).toNat < n → (∀ (t' : PS) (iv' : Int), Bd t' → Fm [73, 105, 106, 77, 75, 78, 79, 80, 81] [401, 400, 403, 404, 232, 402, 405, 406, 407, 408, 409, 410, 411, 412, 413, 414, 415, 416, 202, 204, 205, 206, 207, 208, 209, 210, 211, 212, 213, 214, 215, 216, 217, 218, 219, 220, 221, 222, 223, 224, 225, 226, 227, 203, 161, 230] s t' → RLx t' → MDJ U t' → (RNL U (stM s) (hitP U (stM s) (x : Int).toNat) iv' t' ∧ HTQ (hitP U (stM s) (x : Int).toNat) (uN U) (fun j => iC t' 400 j) ∧ MZJ U (hitP U (stM s) (x : Int).toNat) t') → ((0 ≤ x ∧ x ≤ 23) ∧ (0 ≤ y ∧ y ≤ 8) ∧ (0 ≤ z ∧ z ≤ 8) ∧ (-2 ≤ w ∧ w ≤ 11) ∧ iI t' 73 = 0 ∧ iI t' 89 = 1 ∧ iI t' 90 = iI s 90 ∧ (iI s 90 = (uN U : Int) ∧ uN U ≤ 12) ∧ iv' = iI t' 105 ∧ iI t' 105 ≤ 8 ∧ iI t' 105 = ((cHt (hitP U (stM s) (x : Int).toNat) (uN U)) : Int) ∧ iI t' 106 = -1) → WS k 203 [(0, .ref (A 179)), (1, .int (Int32.ofInt x)), (2, .int (Int32.ofInt y)), (3, .int (Int32.ofInt z)), (4, .int (Int32.ofInt w)), (6, .int (Int32.ofInt iv'))] [] (Wd A dT t') 0 0) → WS k 177 [(0, .ref (A 179)), (1, .int (Int32.ofInt x)), (2, .int (Int32.ofInt y)), (3, .int (Int32.ofInt z)), (4, .int (Int32.ofInt w)), (6, .int (Int32.ofInt iv))] [] (Wd A dT t) 0 0 := by
    intro n
    induction n with
    | zero =>
      intro t iv I F jjRLx jjMDJ hq hi hm kx
      exact absurd hm (Nat.not_lt_zero _)
    | succ n ih =>
      intro t iv I F jjRLx jjMDJ hq hi hm kx
      have b2001 : (0 : Int) ≤ iI t 73 ∧ iI t 73 ≤ 3 := I.1 73
      have b2002 : (0 : Int) ≤ iI t 105 ∧ iI t 105 ≤ 12 := I.1 105
      have b2003 : (0 : Int) ≤ iI t 90 ∧ iI t 90 ≤ 12 := I.1 90
      have b2004 : ((-2147483648) : Int) ≤ iI t 106 ∧ iI t 106 ≤ 2147483647 := I.1 106
      have b2005 : (1 : Int) ≤ iI t 89 ∧ iI t 89 ≤ 8 := I.1 89
      refine z_load X (x := iv) (show cdA 286 177 = some (.iload 6, 2, 0, 0, 0) from rfl) (List.Mem.tail _ (List.Mem.tail _ (List.Mem.tail _ (List.Mem.tail _ (List.Mem.tail _ (List.Mem.head _)))))) ?_
      refine z_aload_n X (x := A 179) (show cdA 286 179 = some (.aload_n 0, 1, 0, 0, 0) from rfl) (List.Mem.head _) ?_
      refine z_getI X 179 (show cdA 286 180 = some (.getfield 431, 3, 12, 74, 0) from rfl) (by decide) rfl rfl ?_
      have b2006 : (0 : Int) ≤ iI t 105 ∧ iI t 105 ≤ 12 := I.1 105
      refine z_icmp_ge X (t := 203) (show cdA 286 183 = some (.if_icmp .ge 20, 3, 3, 0, 0) from rfl) (by decide) ⟨by first | exact oq_fa4e5087 hi.2.2.2.2.2.2.2.2.1.1 | omega, by first | exact oq_39d2cc6e hi.2.2.2.2.2.2.2.2.1.2 b2006.2 | omega⟩ (rng_to _) (fun g2007 => ?_) (fun g2007 => ?_)
      ·
        refine WS_lv (lv := [(0, .ref (A 179)), (1, .int (Int32.ofInt x)), (2, .int (Int32.ofInt y)), (3, .int (Int32.ofInt z)), (4, .int (Int32.ofInt w)), (6, .int (Int32.ofInt iv))]) (List.forall_mem_cons.mpr ⟨(List.Mem.head _), (List.forall_mem_cons.mpr ⟨(List.Mem.tail _ (List.Mem.head _)), (List.forall_mem_cons.mpr ⟨(List.Mem.tail _ (List.Mem.tail _ (List.Mem.head _))), (List.forall_mem_cons.mpr ⟨(List.Mem.tail _ (List.Mem.tail _ (List.Mem.tail _ (List.Mem.head _)))), (List.forall_mem_cons.mpr ⟨(List.Mem.tail _ (List.Mem.tail _ (List.Mem.tail _ (List.Mem.tail _ (List.Mem.head _))))), (List.forall_mem_cons.mpr ⟨(List.Mem.tail _ (List.Mem.tail _ (List.Mem.tail _ (List.Mem.tail _ (List.Mem.tail _ (List.Mem.head _)))))), (fun q h => absurd h List.not_mem_nil)⟩)⟩)⟩)⟩)⟩)⟩) ?_
        exact kx _ iv I F jjRLx jjMDJ hq (by first | exact ⟨And.intro (hi.1.1) (hi.1.2), And.intro (hi.2.1.1) (hi.2.1.2), And.intro (hi.2.2.1.1) (hi.2.2.1.2), And.intro (hi.2.2.2.1.1) (hi.2.2.2.1.2), hi.2.2.2.2.1, hi.2.2.2.2.2.1, hi.2.2.2.2.2.2.1, And.intro (hi.2.2.2.2.2.2.2.1.1) (hi.2.2.2.2.2.2.2.1.2), oq_daa9f991 hi.2.2.2.2.2.2.2.2.1.2 g2007, hi.2.2.2.2.2.2.2.2.2.1, hi.2.2.2.2.2.2.2.2.2.2.1, hi.2.2.2.2.2.2.2.2.2.2.2⟩ | omega)
      ·
        refine z_aload_n X (x := A 179) (show cdA 286 186 = some (.aload_n 0, 1, 0, 0, 0) from rfl) (List.Mem.head _) ?_
        refine z_aload_n X (x := A 179) (show cdA 286 187 = some (.aload_n 0, 1, 0, 0, 0) from rfl) (List.Mem.head _) ?_
        refine s_getR X 179 (show cdA 286 188 = some (.getfield 142, 3, 12, 68, 0) from rfl) (by decide) rfl rfl ?_
        refine z_load X (x := iv) (show cdA 286 191 = some (.iload 6, 2, 0, 0, 0) from rfl) (List.Mem.tail _ (List.Mem.tail _ (List.Mem.tail _ (List.Mem.tail _ (List.Mem.tail _ (List.Mem.head _)))))) ?_
        refine z_ald X 455 (show cdA 286 193 = some (.iaload, 1, 0, 0, 0) from rfl) (by decide) rfl (by first | exact hi.2.2.2.2.2.2.2.2.1.1 | omega) (show iv < 8 by first | exact oq_7f5b2e79 g2007 hi.2.2.2.2.2.2.2.2.2.1 | omega) (by decide) ?_
        have b2008 : (0 : Int) ≤ iC t 400 (iv).toNat ∧ iC t 400 (iv).toNat ≤ 11 := I.2 400 _ (show (iv).toNat < 8 by first | exact oq_67be0351 g2007 hi.2.2.2.2.2.2.2.2.2.1 | omega)
        obtain ⟨b1, hb2, hb3, hb4, hb5⟩ := htq_at hq.2.1 (j := (iv : Int).toNat) (by omega)
        replace hb5 : iC t 400 (iv : Int).toNat = (b1 : Int) := hb5
        have hbn : ((iC t 400 (iv).toNat) : Int).toNat = b1 := by omega
        have hdn := jjMDJ.1.1
        refine z_callV X 179 (rm := rmN 281) (As := [.int (Int32.ofInt (iC t 400 (iv).toNat))]) (st := []) (show cdA 286 194 = some (.invokevirtual 455, 3, 281, 0, 0) from rfl) rfl (by decide) rfl (by rw [E.1, E.2.1, E.2.2.1]; exact k_findRound9 G I jjRLx jjMDJ (by first | exact ⟨b2008.1, by omega⟩ | omega)) ⟨by rw [E.2.2.2]; exact (show (rmN 281).frames + 1 ≤ (rmN 286).frames by decide), by rw [E.2.2.2]; exact (show 8 + (mNL (miB 281) + 11) + (rmN 281).locals ≤ (rmN 286).locals by decide), by rw [E.2.2.2]; exact (show 0 + (rmN 281).cells ≤ (rmN 286).cells by decide), by rw [E.2.2.2]; exact (show 0 + (rmN 281).slots ≤ (rmN 286).slots by decide)⟩ (Nat.le_of_ble_eq_true rfl) (fun vv s2009 hq => ?_) (fun ee s2009 hq => ?_)
        rotate_left
        · obtain ⟨Is2009, Fs2009, JRLx_s2009, hv, hps2009⟩ := hq; cases hv
        obtain ⟨Is2009, Fs2009, JRLx_s2009, hv, hps2009⟩ := hq
        cases hv
        have Gs2009 := fm_ts F Fs2009 (by decide) (by decide)
        have JRLx_s2009 : RLx s2009 := RLx_fm Fs2009 (by decide) jjRLx
        have JMDJ_s2009 : MDJ U s2009 := MDJ_fm Fs2009 (by decide) jjMDJ
        have ws2009_73 : iI s2009 73 = iI t 73 := fm_i Fs2009 (by decide)
        have ws2009_105 : iI s2009 105 = iI t 105 := fm_i Fs2009 (by decide)
        have ws2009_90 : iI s2009 90 = iI t 90 := fm_i Fs2009 (by decide)
        have ws2009_106 : iI s2009 106 = iI t 106 := fm_i Fs2009 (by decide)
        have ws2009_89 : iI s2009 89 = iI t 89 := fm_i Fs2009 (by decide)
        show WS k 197 [(0, .ref (A 179)), (1, .int (Int32.ofInt x)), (2, .int (Int32.ofInt y)), (3, .int (Int32.ofInt z)), (4, .int (Int32.ofInt w)), (6, .int (Int32.ofInt iv))] [] (Wd A dT s2009) 0 0
        have hR9 := hps2009
        rw [show stM t = stM s from stm_s (sam_fm F (by decide))] at hR9
        have hRN : RNL U (stM s) (hitP U (stM s) (x : Int).toNat) (iv + 1) s2009 := rnl_up (b := (iC t 400 (iv).toNat)) hq.1 (by omega) (by omega) (by rw [hbn]; exact hb3) (by rw [hbn]; omega) hR9.1 hR9.2
        have hHT2 : HTQ (hitP U (stM s) (x : Int).toNat) (uN U) (fun j => iC s2009 400 j) := by rw [show (fun j => iC s2009 400 j) = (fun j => iC t 400 j) from funext (fun j => fm_c Fs2009 (by decide))]; exact hq.2.1
        have hMZ2 : MZJ U (hitP U (stM s) (x : Int).toNat) s2009 := MZJ_fm Fs2009 (by decide) hq.2.2
        refine z_inc X (x := iv) (lv' := [(6, .int (Int32.ofInt (iv + 1))), (0, .ref (A 179)), (1, .int (Int32.ofInt x)), (2, .int (Int32.ofInt y)), (3, .int (Int32.ofInt z)), (4, .int (Int32.ofInt w))]) (show cdA 286 197 = some (.iinc 6 1, 3, 0, 0, 0) from rfl) (by decide) (List.Mem.tail _ (List.Mem.tail _ (List.Mem.tail _ (List.Mem.tail _ (List.Mem.tail _ (List.Mem.head _)))))) (fun _ h => h) ?_
        refine z_goto X (t := 177) (show cdA 286 200 = some (.goto (-23), 3, 0, 0, 0) from rfl) (by decide) ?_
        refine WS_lv (lv := [(0, .ref (A 179)), (1, .int (Int32.ofInt x)), (2, .int (Int32.ofInt y)), (3, .int (Int32.ofInt z)), (4, .int (Int32.ofInt w)), (6, .int (Int32.ofInt (iv + 1)))]) (List.forall_mem_cons.mpr ⟨(List.Mem.tail _ (List.Mem.head _)), (List.forall_mem_cons.mpr ⟨(List.Mem.tail _ (List.Mem.tail _ (List.Mem.head _))), (List.forall_mem_cons.mpr ⟨(List.Mem.tail _ (List.Mem.tail _ (List.Mem.tail _ (List.Mem.head _)))), (List.forall_mem_cons.mpr ⟨(List.Mem.tail _ (List.Mem.tail _ (List.Mem.tail _ (List.Mem.tail _ (List.Mem.head _))))), (List.forall_mem_cons.mpr ⟨(List.Mem.tail _ (List.Mem.tail _ (List.Mem.tail _ (List.Mem.tail _ (List.Mem.tail _ (List.Mem.head _)))))), (List.forall_mem_cons.mpr ⟨(List.Mem.head _), (fun q h => absurd h List.not_mem_nil)⟩)⟩)⟩)⟩)⟩)⟩) ?_
        exact ih _ (iv + 1) Is2009 Gs2009 JRLx_s2009 JMDJ_s2009 ⟨hRN, hHT2, hMZ2⟩ (by first | exact ⟨And.intro (hi.1.1) (hi.1.2), And.intro (hi.2.1.1) (hi.2.1.2), And.intro (hi.2.2.1.1) (hi.2.2.1.2), And.intro (hi.2.2.2.1.1) (hi.2.2.2.1.2), oq_333640b7 ws2009_73 hi.2.2.2.2.1 b2001.1, oq_b44a1c7f ws2009_89 hi.2.2.2.2.2.1 b2005.1, oq_1aa5be9e ws2009_90 hi.2.2.2.2.2.2.1, And.intro (hi.2.2.2.2.2.2.2.1.1) (hi.2.2.2.2.2.2.2.1.2), And.intro (oq_54f49eb5 hi.2.2.2.2.2.2.2.2.1.1) (oq_808850b7 ws2009_105 g2007), oq_86ef0b17 ws2009_105 hi.2.2.2.2.2.2.2.2.2.1, oq_27118732 hi.2.2.2.2.2.2.2.2.2.2.1 ws2009_105, oq_627b51e0 ws2009_106 hi.2.2.2.2.2.2.2.2.2.2.2⟩ | omega) (by first | exact qk_me hm (by decide) (oq_ccc5e5e0 g2007 hi.2.2.2.2.2.2.2.2.2.1) | omega) kx
  refine z_aload_n X (x := A 179) (show cdA 286 0 = some (.aload_n 0, 1, 0, 0, 0) from rfl) (List.Mem.head _) ?_
  refine z_const X (show cdA 286 1 = some (.iconst 0, 1, 0, 0, 0) from rfl) ?_
  refine s_putI X 179 (show cdA 286 2 = some (.putfield 172, 3, 12, 0, 0) from rfl) (by decide) rfl rfl (by decide) rfl rfl rfl ?_
  obtain ⟨s6, hs6⟩ : ∃ x0, x0 = uI s 73 (Int32.ofInt 0) := ⟨_, rfl⟩
  rw [← hs6]
  have Is6 : Bd s6 := by rw [hs6]; exact bd_I I (show (0 : Int) ≤ 0 ∧ 0 ≤ 3 by first | exact ⟨by decide, by decide⟩ | omega) (by decide)
  have Fs6 := fm_I (x := Int32.ofInt 0) F (show 73 ∈ _ by decide)
  rw [← hs6] at Fs6
  have vs6 : iI s6 73 = 0 := by rw [hs6]; exact iI_u (by decide)
  have ws6_105 : iI s6 105 = iI s 105 := by rw [hs6]; rfl
  have ws6_90 : iI s6 90 = iI s 90 := by rw [hs6]; rfl
  have ws6_106 : iI s6 106 = iI s 106 := by rw [hs6]; rfl
  have ws6_89 : iI s6 89 = iI s 89 := by rw [hs6]; rfl
  have fs6 : Fm [73] [] s s6 := by rw [hs6]; exact fm_I (fm_rf _ _ _) (show 73 ∈ _ by decide)
  have JRLx_s6 : RLx s6 := RLx_fm fs6 (by decide) jRLx
  have JMDJ_s6 : MDJ U s6 := MDJ_fm fs6 (by decide) jMDJ
  refine z_aload_n X (x := A 179) (show cdA 286 5 = some (.aload_n 0, 1, 0, 0, 0) from rfl) (List.Mem.head _) ?_
  refine z_load_n X (x := x) (show cdA 286 6 = some (.iload_n 1, 1, 0, 0, 0) from rfl) (List.Mem.tail _ (List.Mem.head _)) ?_
  refine z_const X (show cdA 286 7 = some (.iconst 0, 1, 0, 0, 0) from rfl) ?_
  refine z_bipush X (show cdA 286 8 = some (.bipush 23, 2, 0, 0, 23) from rfl) ?_
  refine z_callS X (rm := rmN 188) (As := [.int (Int32.ofInt x), .int (Int32.ofInt 0), .int (Int32.ofInt 23)]) (st := [.ref (A 179)]) (show cdA 286 10 = some (.invokestatic 209, 3, 188, 1, 0) from rfl) rfl (by rw [E.1, E.2.1, E.2.2.1]; exact k_in2 G Is6 (by first | exact ⟨p0.1, p0.2⟩ | omega) (by first | exact ⟨by decide, by decide⟩ | omega) (by first | exact ⟨by decide, by decide⟩ | omega)) ⟨by rw [E.2.2.2]; exact (show (rmN 188).frames + 1 ≤ (rmN 286).frames by decide), by rw [E.2.2.2]; exact (show 8 + (mNL (miB 188) + 11) + (rmN 188).locals ≤ (rmN 286).locals by decide), by rw [E.2.2.2]; exact (show 0 + (rmN 188).cells ≤ (rmN 286).cells by decide), by rw [E.2.2.2]; exact (show 0 + (rmN 188).slots ≤ (rmN 286).slots by decide)⟩ (Nat.le_of_ble_eq_true rfl) (fun vv s7 hq => ?_) (fun ee s7 hq => ?_)
  rotate_left
  · obtain ⟨rfl, e8, hv, hrs7, hps7⟩ := hq; cases hv
  obtain ⟨rfl, e8, hv, hrs7, hps7⟩ := hq
  cases hv
  show WS k 13 [(0, .ref (A 179)), (1, .int (Int32.ofInt x)), (2, .int (Int32.ofInt y)), (3, .int (Int32.ofInt z)), (4, .int (Int32.ofInt w))] [.int (Int32.ofInt e8), .ref (A 179)] (Wd A dT s6) 0 0
  refine z_if_eq X (t := 48) (show cdA 286 13 = some (.ifCond .eq 35, 3, 0, 0, 0) from rfl) (by decide) hrs7 (fun g9 => ?_) (fun g9 => ?_)
  ·
    refine z_const X (show cdA 286 48 = some (.iconst 1, 1, 0, 0, 0) from rfl) ?_
    refine z_goto X (t := 53) (show cdA 286 49 = some (.goto 4, 3, 0, 0, 0) from rfl) (by decide) ?_
    refine z_const X (show cdA 286 53 = some (.iconst 1, 1, 0, 0, 0) from rfl) ?_
    refine z_callV X 179 (rm := rmN 187) (As := [.int (Int32.ofInt 1), .int (Int32.ofInt 1)]) (st := []) (show cdA 286 54 = some (.invokevirtual 229, 3, 187, 0, 0) from rfl) rfl (by decide) rfl (by rw [E.1, E.2.1, E.2.2.1]; exact k_bad2 G Is6 (by first | exact Or.inr (by decide) | omega) (by first | exact ⟨by decide, by decide⟩ | omega)) ⟨by rw [E.2.2.2]; exact (show (rmN 187).frames + 1 ≤ (rmN 286).frames by decide), by rw [E.2.2.2]; exact (show 8 + (mNL (miB 187) + 11) + (rmN 187).locals ≤ (rmN 286).locals by decide), by rw [E.2.2.2]; exact (show 0 + (rmN 187).cells ≤ (rmN 286).cells by decide), by rw [E.2.2.2]; exact (show 0 + (rmN 187).slots ≤ (rmN 286).slots by decide)⟩ (Nat.le_of_ble_eq_true rfl) (fun vv s10 hq => ?_) (fun ee s10 hq => ?_)
    rotate_left
    · obtain ⟨Is10, Fs10, e11, hv, hrs10, hps10⟩ := hq; cases hv
    obtain ⟨Is10, Fs10, e11, hv, hrs10, hps10⟩ := hq
    cases hv
    have Gs10 := fm_ts Fs6 Fs10 (by decide) (by decide)
    have JRLx_s10 : RLx s10 := RLx_fm Fs10 (by decide) JRLx_s6
    have JMDJ_s10 : MDJ U s10 := MDJ_fm Fs10 (by decide) JMDJ_s6
    have b12 : (0 : Int) ≤ iI s10 73 ∧ iI s10 73 ≤ 3 := Is10.1 73
    have ws10_105 : iI s10 105 = iI s6 105 := fm_i Fs10 (by decide)
    have ws10_90 : iI s10 90 = iI s6 90 := fm_i Fs10 (by decide)
    have ws10_106 : iI s10 106 = iI s6 106 := fm_i Fs10 (by decide)
    have ws10_89 : iI s10 89 = iI s6 89 := fm_i Fs10 (by decide)
    show WS k 57 [(0, .ref (A 179)), (1, .int (Int32.ofInt x)), (2, .int (Int32.ofInt y)), (3, .int (Int32.ofInt z)), (4, .int (Int32.ofInt w))] [.int (Int32.ofInt e11)] (Wd A dT s10) 0 0
    refine z_if_eq X (t := 62) (show cdA 286 57 = some (.ifCond .eq 5, 3, 0, 0, 0) from rfl) (by decide) hrs10 (fun g13 => ?_) (fun g13 => ?_)
    ·
      have hst9 := jMDJ.1
      refine z_const X (show cdA 286 62 = some (.iconst 0, 1, 0, 0, 0) from rfl) ?_
      refine z_store X (lv' := [(5, .int (Int32.ofInt 0)), (0, .ref (A 179)), (1, .int (Int32.ofInt x)), (2, .int (Int32.ofInt y)), (3, .int (Int32.ofInt z)), (4, .int (Int32.ofInt w))]) (show cdA 286 63 = some (.istore 5, 2, 0, 0, 0) from rfl) (by decide) (fun _ h => h) ?_
      refine z_aload_n X (x := A 179) (show cdA 286 65 = some (.aload_n 0, 1, 0, 0, 0) from rfl) (List.Mem.tail _ (List.Mem.head _)) ?_
      refine z_const X (show cdA 286 66 = some (.iconst 0, 1, 0, 0, 0) from rfl) ?_
      refine s_putI X 179 (show cdA 286 67 = some (.putfield 431, 3, 12, 74, 0) from rfl) (by decide) rfl rfl (by decide) rfl rfl rfl ?_
      obtain ⟨s14, hs14⟩ : ∃ x0, x0 = uI s10 105 (Int32.ofInt 0) := ⟨_, rfl⟩
      rw [← hs14]
      have Is14 : Bd s14 := by rw [hs14]; exact bd_I Is10 (show (0 : Int) ≤ 0 ∧ 0 ≤ 12 by first | exact ⟨by decide, by decide⟩ | omega) (by decide)
      have Fs14 := fm_I (x := Int32.ofInt 0) Gs10 (show 105 ∈ _ by decide)
      rw [← hs14] at Fs14
      have vs14 : iI s14 105 = 0 := by rw [hs14]; exact iI_u (by decide)
      have ws14_73 : iI s14 73 = iI s10 73 := by rw [hs14]; rfl
      have ws14_90 : iI s14 90 = iI s10 90 := by rw [hs14]; rfl
      have ws14_106 : iI s14 106 = iI s10 106 := by rw [hs14]; rfl
      have ws14_89 : iI s14 89 = iI s10 89 := by rw [hs14]; rfl
      have fs14 : Fm [105] [] s10 s14 := by rw [hs14]; exact fm_I (fm_rf _ _ _) (show 105 ∈ _ by decide)
      have JRLx_s14 : RLx s14 := RLx_fm fs14 (by decide) JRLx_s10
      have JMDJ_s14 : MDJ U s14 := MDJ_fm fs14 (by decide) JMDJ_s10
      refine z_const X (show cdA 286 70 = some (.iconst 0, 1, 0, 0, 0) from rfl) ?_
      refine z_store X (lv' := [(6, .int (Int32.ofInt 0)), (5, .int (Int32.ofInt 0)), (0, .ref (A 179)), (1, .int (Int32.ofInt x)), (2, .int (Int32.ofInt y)), (3, .int (Int32.ofInt z)), (4, .int (Int32.ofInt w))]) (show cdA 286 71 = some (.istore 6, 2, 0, 0, 0) from rfl) (by decide) (fun _ h => h) ?_
      refine WS_lv (lv := [(0, .ref (A 179)), (1, .int (Int32.ofInt x)), (2, .int (Int32.ofInt y)), (3, .int (Int32.ofInt z)), (4, .int (Int32.ofInt w)), (5, .int (Int32.ofInt 0)), (6, .int (Int32.ofInt 0))]) (List.forall_mem_cons.mpr ⟨(List.Mem.tail _ (List.Mem.tail _ (List.Mem.head _))), (List.forall_mem_cons.mpr ⟨(List.Mem.tail _ (List.Mem.tail _ (List.Mem.tail _ (List.Mem.head _)))), (List.forall_mem_cons.mpr ⟨(List.Mem.tail _ (List.Mem.tail _ (List.Mem.tail _ (List.Mem.tail _ (List.Mem.head _))))), (List.forall_mem_cons.mpr ⟨(List.Mem.tail _ (List.Mem.tail _ (List.Mem.tail _ (List.Mem.tail _ (List.Mem.tail _ (List.Mem.head _)))))), (List.forall_mem_cons.mpr ⟨(List.Mem.tail _ (List.Mem.tail _ (List.Mem.tail _ (List.Mem.tail _ (List.Mem.tail _ (List.Mem.tail _ (List.Mem.head _))))))), (List.forall_mem_cons.mpr ⟨(List.Mem.tail _ (List.Mem.head _)), (List.forall_mem_cons.mpr ⟨(List.Mem.head _), (fun q h => absurd h List.not_mem_nil)⟩)⟩)⟩)⟩)⟩)⟩)⟩) ?_
      refine L73 ((12 - 0 : Int).toNat + 1) s14 0 0 Is14 Fs14 JRLx_s14 JMDJ_s14 (hsq_0 (by first | (clear hps10 hps7; omega) | (clear hps7; omega) | omega)) (by first | exact ⟨oq_6b02d9ba g13 hps10 vs6, oq_4c9b0342 g13 hps10 vs6, oq_4c9b0342 g13 hps10 vs6, oq_d3994d9a g13 hps10 vs6, oq_8c407924 ws14_73 g13 b12.1 hps10 vs6, oq_29301542 ws14_89 ws10_89 ws6_89 p4 b5.1, oq_d0d2714e ws14_90 ws6_90 ws10_90, oq_9014f91b g13 hps10 vs6, And.intro (by decide) (by decide), And.intro (by decide) (b3.1), oq_0b35aa92 vs14, oq_1af0b4f8 vs14⟩ | omega) (Nat.lt_succ_self _) ?_
      intro s15 x16 x17 Is15 Fs15 JRLx_s15 JMDJ_s15 Qs15 hs15
      have b18 : (0 : Int) ≤ iI s15 73 ∧ iI s15 73 ≤ 3 := Is15.1 73
      have b19 : (0 : Int) ≤ iI s15 105 ∧ iI s15 105 ≤ 12 := Is15.1 105
      have b20 : (0 : Int) ≤ iI s15 90 ∧ iI s15 90 ≤ 12 := Is15.1 90
      have b21 : ((-2147483648) : Int) ≤ iI s15 106 ∧ iI s15 106 ≤ 2147483647 := Is15.1 106
      have b22 : (1 : Int) ≤ iI s15 89 ∧ iI s15 89 ≤ 8 := Is15.1 89
      have hHS : HSQ (hitP U (stM s) (x : Int).toNat) (uN U : Int) x16 s15 := by have zz := Qs15; rw [show x17 = (uN U : Int) by first | (clear hps10 hps7; omega) | (clear hps7; omega) | omega] at zz; exact zz
      have hH1 := hHS.1
      rw [Int.toNat_natCast] at hH1
      refine z_load X (x := w) (show cdA 286 148 = some (.iload 4, 2, 0, 0, 0) from rfl) (List.Mem.tail _ (List.Mem.tail _ (List.Mem.tail _ (List.Mem.tail _ (List.Mem.head _))))) ?_
      refine z_bipush X (show cdA 286 150 = some (.bipush (-2), 2, 0, 0, (-2)) from rfl) ?_
      refine z_icmp_ne X (t := 158) (show cdA 286 152 = some (.if_icmp .ne 6, 3, 1, 0, 0) from rfl) (by decide) ⟨by first | exact p3.1 | omega, by first | exact p3.2 | omega⟩ (by decide) (fun g23 => ?_) (fun g23 => ?_)
      ·
        refine z_aload_n X (x := A 179) (show cdA 286 158 = some (.aload_n 0, 1, 0, 0, 0) from rfl) (List.Mem.head _) ?_
        refine z_const X (show cdA 286 159 = some (.iconst (-1), 1, 0, 0, 0) from rfl) ?_
        refine s_putI X 179 (show cdA 286 160 = some (.putfield 434, 3, 12, 75, 0) from rfl) (by decide) rfl rfl (by decide) rfl rfl rfl ?_
        obtain ⟨s24, hs24⟩ : ∃ x0, x0 = uI s15 106 (Int32.ofInt (-1)) := ⟨_, rfl⟩
        rw [← hs24]
        have Is24 : Bd s24 := by rw [hs24]; exact bd_I Is15 (show ((-2147483648) : Int) ≤ (-1) ∧ (-1) ≤ 2147483647 by first | exact ⟨by decide, by decide⟩ | omega) (by decide)
        have Fs24 := fm_I (x := Int32.ofInt (-1)) Fs15 (show 106 ∈ _ by decide)
        rw [← hs24] at Fs24
        have vs24 : iI s24 106 = (-1) := by rw [hs24]; exact iI_u (by decide)
        have ws24_73 : iI s24 73 = iI s15 73 := by rw [hs24]; rfl
        have ws24_105 : iI s24 105 = iI s15 105 := by rw [hs24]; rfl
        have ws24_90 : iI s24 90 = iI s15 90 := by rw [hs24]; rfl
        have ws24_89 : iI s24 89 = iI s15 89 := by rw [hs24]; rfl
        have fs24 : Fm [106] [] s15 s24 := by rw [hs24]; exact fm_I (fm_rf _ _ _) (show 106 ∈ _ by decide)
        have JRLx_s24 : RLx s24 := RLx_fm fs24 (by decide) JRLx_s15
        have JMDJ_s24 : MDJ U s24 := MDJ_fm fs24 (by decide) JMDJ_s15
        refine z_aload_n X (x := A 179) (show cdA 286 163 = some (.aload_n 0, 1, 0, 0, 0) from rfl) (List.Mem.head _) ?_
        refine z_getI X 179 (show cdA 286 164 = some (.getfield 431, 3, 12, 74, 0) from rfl) (by decide) rfl rfl ?_
        have b25 : (0 : Int) ≤ iI s24 105 ∧ iI s24 105 ≤ 12 := Is24.1 105
        refine z_bipush X (show cdA 286 167 = some (.bipush 8, 2, 0, 0, 8) from rfl) ?_
        refine z_icmp_le X (t := 174) (show cdA 286 169 = some (.if_icmp .le 5, 3, 5, 0, 0) from rfl) (by decide) (rng_to _) (by decide) (fun g26 => ?_) (fun g26 => ?_)
        ·
          have hHT : HTQ (hitP U (stM s) (x : Int).toNat) (uN U) (fun j => iC s24 400 j) := fun b hb p => (show iC s24 400 (cHt (hitP U (stM s) (x : Int).toNat) b) = iC s15 400 (cHt (hitP U (stM s) (x : Int).toNat) b) by rw [hs24]; rfl).trans (hHS.2.2.1 b (by first | (clear g23 hps10 hps7; omega) | (clear hps10 hps7; omega) | omega) p (by have := cht_lt (P := (hitP U (stM s) (x : Int).toNat)) hb p; omega))
          have hMZ0 : MZJ U (hitP U (stM s) (x : Int).toNat) s24 := fun b hb _ => (show iC s24 401 b = iC s15 401 b by rw [hs24]; rfl).trans (hHS.2.2.2 b (by first | (clear g23 hps10 hps7; omega) | (clear hps10 hps7; omega) | omega))
          refine z_const X (show cdA 286 174 = some (.iconst 0, 1, 0, 0, 0) from rfl) ?_
          refine z_store X (lv' := [(6, .int (Int32.ofInt 0)), (0, .ref (A 179)), (1, .int (Int32.ofInt x)), (2, .int (Int32.ofInt y)), (3, .int (Int32.ofInt z)), (4, .int (Int32.ofInt w)), (5, .int (Int32.ofInt x16))]) (show cdA 286 175 = some (.istore 6, 2, 0, 0, 0) from rfl) (by decide) (fun _ h => h) ?_
          refine WS_lv (lv := [(0, .ref (A 179)), (1, .int (Int32.ofInt x)), (2, .int (Int32.ofInt y)), (3, .int (Int32.ofInt z)), (4, .int (Int32.ofInt w)), (6, .int (Int32.ofInt 0))]) (List.forall_mem_cons.mpr ⟨(List.Mem.tail _ (List.Mem.head _)), (List.forall_mem_cons.mpr ⟨(List.Mem.tail _ (List.Mem.tail _ (List.Mem.head _))), (List.forall_mem_cons.mpr ⟨(List.Mem.tail _ (List.Mem.tail _ (List.Mem.tail _ (List.Mem.head _)))), (List.forall_mem_cons.mpr ⟨(List.Mem.tail _ (List.Mem.tail _ (List.Mem.tail _ (List.Mem.tail _ (List.Mem.head _))))), (List.forall_mem_cons.mpr ⟨(List.Mem.tail _ (List.Mem.tail _ (List.Mem.tail _ (List.Mem.tail _ (List.Mem.tail _ (List.Mem.head _)))))), (List.forall_mem_cons.mpr ⟨(List.Mem.head _), (fun q h => absurd h List.not_mem_nil)⟩)⟩)⟩)⟩)⟩)⟩) ?_
          refine L177 ((8 - 0 : Int).toNat + 1) s24 0 Is24 Fs24 JRLx_s24 JMDJ_s24 ⟨rnl_0, hHT, hMZ0⟩ (by first | exact ⟨And.intro (hs15.1.1) (hs15.1.2), And.intro (hs15.2.1.1) (hs15.2.1.2), And.intro (hs15.2.2.1.1) (hs15.2.2.1.2), And.intro (hs15.2.2.2.1.1) (hs15.2.2.2.1.2), oq_333640b7 ws24_73 hs15.2.2.2.2.1 b18.1, oq_b44a1c7f ws24_89 hs15.2.2.2.2.2.1 b22.1, oq_1aa5be9e ws24_90 hs15.2.2.2.2.2.2.1, And.intro (hs15.2.2.2.2.2.2.2.1.1) (hs15.2.2.2.2.2.2.2.1.2), And.intro (by decide) (b25.1), g26, oq_f955fd23 hs15.1.2 hs15.1.1 g9 hps7, vs24⟩ | omega) (Nat.lt_succ_self _) ?_
          intro s27 x28 Is27 Fs27 JRLx_s27 JMDJ_s27 Qs27 hs27
          have b29 : (0 : Int) ≤ iI s27 73 ∧ iI s27 73 ≤ 3 := Is27.1 73
          have b30 : (0 : Int) ≤ iI s27 105 ∧ iI s27 105 ≤ 12 := Is27.1 105
          have b31 : (0 : Int) ≤ iI s27 90 ∧ iI s27 90 ≤ 12 := Is27.1 90
          have b32 : ((-2147483648) : Int) ≤ iI s27 106 ∧ iI s27 106 ≤ 2147483647 := Is27.1 106
          have b33 : (1 : Int) ≤ iI s27 89 ∧ iI s27 89 ≤ 8 := Is27.1 89
          have hGJ : GTJ U (stM s) (x : Int).toNat (fitK9 U (stM s) (x : Int).toNat (pfM s) (fun j => iC s 229 j)) s27 := ⟨⟨⟨by first | (clear g23 hps10 hps7; omega) | (clear hps10 hps7; omega) | omega, by first | (clear g23 hps10 hps7; omega) | (clear hps10 hps7; omega) | omega⟩, Qs27.2.1⟩, fun b hb p => Qs27.1 b hb p (by have := cht_lt (P := (hitP U (stM s) (x : Int).toNat)) hb p; omega), by first | (clear g23 hps10 hps7; omega) | (clear hps10 hps7; omega) | omega, ⟨by first | (clear g23 hps10 hps7; omega) | (clear hps10 hps7; omega) | omega, jMDJ.1.2, fun b hb => hMB (x : Int).toNat b (by first | (clear g23 hps10 hps7; omega) | (clear hps10 hps7; omega) | omega) hb⟩, by rw [show pfM s27 = pfM s from funext (fun j => fm_c Fs27 (by decide)), show (fun j => iC s27 229 j) = (fun j => iC s 229 j) from funext (fun j => fm_c Fs27 (by decide))]⟩
          refine z_aload_n X (x := A 179) (show cdA 286 203 = some (.aload_n 0, 1, 0, 0, 0) from rfl) (List.Mem.head _) ?_
          refine z_const X (show cdA 286 204 = some (.iconst 0, 1, 0, 0, 0) from rfl) ?_
          refine z_load_n X (x := x) (show cdA 286 205 = some (.iload_n 1, 1, 0, 0, 0) from rfl) (List.Mem.tail _ (List.Mem.head _)) ?_
          refine z_load_n X (x := y) (show cdA 286 206 = some (.iload_n 2, 1, 0, 0, 0) from rfl) (List.Mem.tail _ (List.Mem.tail _ (List.Mem.head _))) ?_
          refine z_load_n X (x := z) (show cdA 286 207 = some (.iload_n 3, 1, 0, 0, 0) from rfl) (List.Mem.tail _ (List.Mem.tail _ (List.Mem.tail _ (List.Mem.head _)))) ?_
          refine z_const X (show cdA 286 208 = some (.iconst 0, 1, 0, 0, 0) from rfl) ?_
          have hGP : GTP U (hitP U (stM s) (x : Int).toNat) none 0 s27 := ⟨show iI s27 106 = -1 by first | (clear g23 hps10 hps7; omega) | (clear hps10 hps7; omega) | omega, fun j hj => absurd hj (by first | (clear g23 hps10 hps7; omega) | (clear hps10 hps7; omega) | omega)⟩
          refine z_callV X 179 (rm := (rkR (52 + 8))) (As := [.int (Int32.ofInt 0), .int (Int32.ofInt x), .int (Int32.ofInt y), .int (Int32.ofInt z), .int (Int32.ofInt 0)]) (st := []) (show cdA 286 209 = some (.invokevirtual 447, 3, 285, 0, 0) from rfl) rfl (by decide) rfl (by rw [E.1, E.2.1, E.2.2.1]; exact k_gor9 G 8 Is27 JRLx_s27 JMDJ_s27 hGJ Qs27.2.2 (by first | exact ⟨by decide, b30.1⟩ | omega) (by first | exact oq_a8ea036d hs27.2.2.2.2.2.2.2.2.2.1 | omega) (by first | exact hs27.2.2.2.2.2.2.2.2.2.1 | omega) (by first | exact oq_b576d2a3 hs27.1.2 hs27.1.1 g9 hps7 | omega) (by first | exact ⟨hs27.1.1, hs27.1.2⟩ | omega) (by first | exact ⟨hs27.2.1.1, hs27.2.1.2⟩ | omega) (by first | exact ⟨hs27.2.2.1.1, hs27.2.2.1.2⟩ | omega) (by first | exact ⟨by decide, by decide⟩ | omega) (hGP)) ⟨by rw [E.2.2.2]; exact (show 72 + 1 ≤ 73 from oq_26188e76), by rw [E.2.2.2]; exact (show 8 + (8 + 11) + 3200 ≤ 3227 from oq_e592698d), by rw [E.2.2.2]; exact Nat.le_refl 0, by rw [E.2.2.2]; exact Nat.le_refl 0⟩ (Nat.le_of_ble_eq_true rfl) (fun vv s34 hq => ?_) (fun ee s34 hq => ?_)
          rotate_left
          · obtain ⟨Is34, Fs34, JRLx_s34, JMZJ_s34, hv, hps34⟩ := hq; cases hv
          obtain ⟨Is34, Fs34, JRLx_s34, JMZJ_s34, hv, hps34⟩ := hq
          cases hv
          have Gs34 := fm_ts Fs27 Fs34 (by decide) (by decide)
          have JRLx_s34 : RLx s34 := RLx_fm Fs34 (by decide) JRLx_s27
          have JMDJ_s34 : MDJ U s34 := MDJ_fm Fs34 (by decide) JMDJ_s27
          have JGTJ_s34 : GTJ U (stM s) (x : Int).toNat (fitK9 U (stM s) (x : Int).toNat (pfM s) (fun j => iC s 229 j)) s34 := GTJ_fm Fs34 (by decide) hGJ
          have ws34_73 : iI s34 73 = iI s27 73 := fm_i Fs34 (by decide)
          have ws34_105 : iI s34 105 = iI s27 105 := fm_i Fs34 (by decide)
          have ws34_90 : iI s34 90 = iI s27 90 := fm_i Fs34 (by decide)
          have b36 : ((-2147483648) : Int) ≤ iI s34 106 ∧ iI s34 106 ≤ 2147483647 := Is34.1 106
          have ws34_89 : iI s34 89 = iI s27 89 := fm_i Fs34 (by decide)
          show WS k 212 [(0, .ref (A 179)), (1, .int (Int32.ofInt x)), (2, .int (Int32.ofInt y)), (3, .int (Int32.ofInt z)), (4, .int (Int32.ofInt w)), (6, .int (Int32.ofInt x28))] [] (Wd A dT s34) 0 0
          have hBS := slm_of hps34
          refine z_aload_n X (x := A 179) (show cdA 286 212 = some (.aload_n 0, 1, 0, 0, 0) from rfl) (List.Mem.head _) ?_
          refine z_getI X 179 (show cdA 286 213 = some (.getfield 434, 3, 12, 75, 0) from rfl) (by decide) rfl rfl ?_
          have b37 : ((-2147483648) : Int) ≤ iI s34 106 ∧ iI s34 106 ≤ 2147483647 := Is34.1 106
          refine z_const X (show cdA 286 216 = some (.iconst (-1), 1, 0, 0, 0) from rfl) ?_
          refine z_icmp_ne X (t := 224) (show cdA 286 217 = some (.if_icmp .ne 7, 3, 1, 0, 0) from rfl) (by decide) (rng_to _) (by decide) (fun g38 => ?_) (fun g38 => ?_)
          ·
            refine z_load X (x := w) (show cdA 286 224 = some (.iload 4, 2, 0, 0, 0) from rfl) (List.Mem.tail _ (List.Mem.tail _ (List.Mem.tail _ (List.Mem.tail _ (List.Mem.head _))))) ?_
            refine z_const X (show cdA 286 226 = some (.iconst (-1), 1, 0, 0, 0) from rfl) ?_
            refine z_icmp_ne X (t := 237) (show cdA 286 227 = some (.if_icmp .ne 10, 3, 1, 0, 0) from rfl) (by decide) ⟨by first | exact p3.1 | omega, by first | exact p3.2 | omega⟩ (by decide) (fun g39 => ?_) (fun g39 => ?_)
            ·
              refine z_load X (x := w) (show cdA 286 237 = some (.iload 4, 2, 0, 0, 0) from rfl) (List.Mem.tail _ (List.Mem.tail _ (List.Mem.tail _ (List.Mem.tail _ (List.Mem.head _))))) ?_
              refine z_aload_n X (x := A 179) (show cdA 286 239 = some (.aload_n 0, 1, 0, 0, 0) from rfl) (List.Mem.head _) ?_
              refine z_getI X 179 (show cdA 286 240 = some (.getfield 233, 3, 12, 22, 0) from rfl) (by decide) rfl rfl ?_
              have b40 : (0 : Int) ≤ iI s34 90 ∧ iI s34 90 ≤ 12 := Is34.1 90
              refine z_icmp_ge X (t := 256) (show cdA 286 243 = some (.if_icmp .ge 13, 3, 3, 0, 0) from rfl) (by decide) ⟨by first | exact p3.1 | omega, by first | exact p3.2 | omega⟩ (rng_to _) (fun g41 => ?_) (fun g41 => ?_)
              ·
                refine z_const X (show cdA 286 256 = some (.iconst 0, 1, 0, 0, 0) from rfl) ?_
                exact w_iret X.1 q hRt rfl (ax_d X (show cdA 286 257 = some (.ireturn, 1, 0, 0, 0) from rfl)) (Nat.zero_le _) (Nat.zero_le _) ⟨_, rfl, Is34, Gs34, JRLx_s34, 0, rfl, (by decide), Or.inl ⟨by first | exact ⟨hs27.1.1, hs27.1.2⟩ | omega, by first | exact ⟨hs27.2.1.1, hs27.2.1.2⟩ | omega, by first | exact ⟨hs27.2.2.1.1, hs27.2.2.1.2⟩ | omega, by first | exact ⟨hs27.2.2.2.1.1, hs27.2.2.2.1.2⟩ | omega, by first | exact oq_333640b7 ws34_73 hs27.2.2.2.2.1 b29.1 | omega, mnm_s hBS (by first | (clear g39 g38 g23 hps10 hps7; omega) | (clear g38 g23 hps10 hps7; omega) | omega) (by first | (clear g39 g38 g23 hps10 hps7; omega) | (clear g38 g23 hps10 hps7; omega) | omega) (by first | (clear g39 g38 g23 hps10 hps7; omega) | (clear g38 g23 hps10 hps7; omega) | omega) (Or.inr ⟨by first | (clear g39 g38 g23 hps10 hps7; omega) | (clear g38 g23 hps10 hps7; omega) | omega, rfl⟩)⟩⟩
              ·
                refine z_aload_n X (x := A 179) (show cdA 286 246 = some (.aload_n 0, 1, 0, 0, 0) from rfl) (List.Mem.head _) ?_
                refine s_getR X 179 (show cdA 286 247 = some (.getfield 148, 3, 12, 70, 0) from rfl) (by decide) rfl rfl ?_
                refine z_load X (x := w) (show cdA 286 250 = some (.iload 4, 2, 0, 0, 0) from rfl) (List.Mem.tail _ (List.Mem.tail _ (List.Mem.tail _ (List.Mem.tail _ (List.Mem.head _))))) ?_
                refine z_ald X 457 (show cdA 286 252 = some (.iaload, 1, 0, 0, 0) from rfl) (by decide) rfl (by first | exact oq_33feeab9 g39 hs27.2.2.2.1.1 g23 | omega) (show w < 12 by first | exact oq_0ddfcfee hs27.2.2.2.1.2 | omega) (by decide) ?_
                have b42 : (0 : Int) ≤ iC s34 402 (w).toNat ∧ iC s34 402 (w).toNat ≤ 3 := Is34.2 402 _ (show (w).toNat < 12 by first | exact oq_9c5fa447 hs27.2.2.2.1.2 | omega)
                refine z_goto X (t := 257) (show cdA 286 253 = some (.goto 4, 3, 0, 0, 0) from rfl) (by decide) ?_
                exact w_iret X.1 q hRt rfl (ax_d X (show cdA 286 257 = some (.ireturn, 1, 0, 0, 0) from rfl)) (Nat.zero_le _) (Nat.zero_le _) ⟨_, rfl, Is34, Gs34, JRLx_s34, (iC s34 402 (w).toNat), rfl, (rng_to _), Or.inl ⟨by first | exact ⟨hs27.1.1, hs27.1.2⟩ | omega, by first | exact ⟨hs27.2.1.1, hs27.2.1.2⟩ | omega, by first | exact ⟨hs27.2.2.1.1, hs27.2.2.1.2⟩ | omega, by first | exact ⟨hs27.2.2.2.1.1, hs27.2.2.2.1.2⟩ | omega, by first | exact oq_333640b7 ws34_73 hs27.2.2.2.2.1 b29.1 | omega, mnm_s hBS (by first | (clear g39 g38 g23 hps10 hps7; omega) | (clear g38 g23 hps10 hps7; omega) | omega) (by first | (clear g39 g38 g23 hps10 hps7; omega) | (clear g38 g23 hps10 hps7; omega) | omega) (by first | (clear g39 g38 g23 hps10 hps7; omega) | (clear g38 g23 hps10 hps7; omega) | omega) (Or.inl ⟨by first | (clear g39 g38 g23 hps10 hps7; omega) | (clear g38 g23 hps10 hps7; omega) | omega, rfl⟩)⟩⟩
            ·
              refine z_aload_n X (x := A 179) (show cdA 286 230 = some (.aload_n 0, 1, 0, 0, 0) from rfl) (List.Mem.head _) ?_
              refine z_getI X 179 (show cdA 286 231 = some (.getfield 434, 3, 12, 75, 0) from rfl) (by decide) rfl rfl ?_
              have b43 : ((-2147483648) : Int) ≤ iI s34 106 ∧ iI s34 106 ≤ 2147483647 := Is34.1 106
              refine z_goto X (t := 257) (show cdA 286 234 = some (.goto 23, 3, 0, 0, 0) from rfl) (by decide) ?_
              exact w_iret X.1 q hRt rfl (ax_d X (show cdA 286 257 = some (.ireturn, 1, 0, 0, 0) from rfl)) (Nat.zero_le _) (Nat.zero_le _) ⟨_, rfl, Is34, Gs34, JRLx_s34, (iI s34 106), rfl, (rng_to _), Or.inl ⟨by first | exact ⟨hs27.1.1, hs27.1.2⟩ | omega, by first | exact ⟨hs27.2.1.1, hs27.2.1.2⟩ | omega, by first | exact ⟨hs27.2.2.1.1, hs27.2.2.1.2⟩ | omega, by first | exact ⟨hs27.2.2.2.1.1, hs27.2.2.2.1.2⟩ | omega, by first | exact oq_333640b7 ws34_73 hs27.2.2.2.2.1 b29.1 | omega, mnm_m hBS (by first | (clear g38 g23 hps10 hps7; omega) | (clear g23 hps10 hps7; omega) | omega) (by first | (clear g38 g23 hps10 hps7; omega) | (clear g23 hps10 hps7; omega) | omega) ⟨by first | (clear g38 g23 hps10 hps7; omega) | (clear g23 hps10 hps7; omega) | omega, rfl⟩⟩⟩
          ·
            refine z_const X (show cdA 286 220 = some (.iconst (-1), 1, 0, 0, 0) from rfl) ?_
            refine z_goto X (t := 257) (show cdA 286 221 = some (.goto 36, 3, 0, 0, 0) from rfl) (by decide) ?_
            exact w_iret X.1 q hRt rfl (ax_d X (show cdA 286 257 = some (.ireturn, 1, 0, 0, 0) from rfl)) (Nat.zero_le _) (Nat.zero_le _) ⟨_, rfl, Is34, Gs34, JRLx_s34, (-1), rfl, (by decide), Or.inl ⟨by first | exact ⟨hs27.1.1, hs27.1.2⟩ | omega, by first | exact ⟨hs27.2.1.1, hs27.2.1.2⟩ | omega, by first | exact ⟨hs27.2.2.1.1, hs27.2.2.1.2⟩ | omega, by first | exact ⟨hs27.2.2.2.1.1, hs27.2.2.2.1.2⟩ | omega, by first | exact oq_333640b7 ws34_73 hs27.2.2.2.2.1 b29.1 | omega, Or.inr (Or.inl ⟨by first | (clear g23 hps10 hps7; omega) | (clear hps10 hps7; omega) | omega, Or.inr (bso9_0 hBS (by first | (clear g23 hps10 hps7; omega) | (clear hps10 hps7; omega) | omega)), rfl⟩)⟩⟩
        ·
          refine z_const X (show cdA 286 172 = some (.iconst (-1), 1, 0, 0, 0) from rfl) ?_
          exact w_iret X.1 q hRt rfl (ax_d X (show cdA 286 173 = some (.ireturn, 1, 0, 0, 0) from rfl)) (Nat.zero_le _) (Nat.zero_le _) ⟨_, rfl, Is24, Fs24, JRLx_s24, (-1), rfl, (by decide), Or.inl ⟨by first | exact ⟨hs15.1.1, hs15.1.2⟩ | omega, by first | exact ⟨hs15.2.1.1, hs15.2.1.2⟩ | omega, by first | exact ⟨hs15.2.2.1.1, hs15.2.2.1.2⟩ | omega, by first | exact ⟨hs15.2.2.2.1.1, hs15.2.2.2.1.2⟩ | omega, by first | exact oq_333640b7 ws24_73 hs15.2.2.2.2.1 b18.1 | omega, Or.inr (Or.inl ⟨by first | (clear g23 hps10 hps7; omega) | (clear hps10 hps7; omega) | omega, Or.inl (by first | (clear g23 hps10 hps7; omega) | (clear hps10 hps7; omega) | omega), rfl⟩)⟩⟩
      ·
        refine z_load X (x := x16) (show cdA 286 155 = some (.iload 5, 2, 0, 0, 0) from rfl) (List.Mem.tail _ (List.Mem.tail _ (List.Mem.tail _ (List.Mem.tail _ (List.Mem.tail _ (List.Mem.head _)))))) ?_
        exact w_iret X.1 q hRt rfl (ax_d X (show cdA 286 157 = some (.ireturn, 1, 0, 0, 0) from rfl)) (Nat.zero_le _) (Nat.zero_le _) ⟨_, rfl, Is15, Fs15, JRLx_s15, x16, rfl, ⟨by first | exact hs15.2.2.2.2.2.2.2.2.1.1 | omega, by first | exact hs15.2.2.2.2.2.2.2.2.1.2 | omega⟩, Or.inl ⟨by first | exact ⟨hs15.1.1, hs15.1.2⟩ | omega, by first | exact ⟨hs15.2.1.1, hs15.2.1.2⟩ | omega, by first | exact ⟨hs15.2.2.1.1, hs15.2.2.1.2⟩ | omega, by first | exact ⟨hs15.2.2.2.1.1, hs15.2.2.2.1.2⟩ | omega, by first | exact hs15.2.2.2.2.1 | omega, Or.inl ⟨by first | (clear hps10 hps7; omega) | (clear hps7; omega) | omega, ⟨by first | exact hs15.2.2.2.2.2.2.2.2.1.1 | omega, by first | exact hs15.2.2.2.2.2.2.2.2.1.2 | omega⟩, by have zz := hHS.2.1; rw [Int.toNat_natCast] at zz; exact zz⟩⟩⟩
    ·
      refine z_const X (show cdA 286 60 = some (.iconst 0, 1, 0, 0, 0) from rfl) ?_
      exact w_iret X.1 q hRt rfl (ax_d X (show cdA 286 61 = some (.ireturn, 1, 0, 0, 0) from rfl)) (Nat.zero_le _) (Nat.zero_le _) ⟨_, rfl, Is10, Gs10, JRLx_s10, 0, rfl, (by decide), Or.inr ⟨by first | exact oq_d493c7ce g9 hps7 | omega, by first | exact oq_faabd673 g13 hps10 vs6 | omega⟩⟩
  ·
    refine z_load_n X (x := y) (show cdA 286 16 = some (.iload_n 2, 1, 0, 0, 0) from rfl) (List.Mem.tail _ (List.Mem.tail _ (List.Mem.head _))) ?_
    refine z_const X (show cdA 286 17 = some (.iconst 0, 1, 0, 0, 0) from rfl) ?_
    refine z_bipush X (show cdA 286 18 = some (.bipush 8, 2, 0, 0, 8) from rfl) ?_
    refine z_callS X (rm := rmN 188) (As := [.int (Int32.ofInt y), .int (Int32.ofInt 0), .int (Int32.ofInt 8)]) (st := [.ref (A 179)]) (show cdA 286 20 = some (.invokestatic 209, 3, 188, 1, 0) from rfl) rfl (by rw [E.1, E.2.1, E.2.2.1]; exact k_in2 G Is6 (by first | exact ⟨p1.1, p1.2⟩ | omega) (by first | exact ⟨by decide, by decide⟩ | omega) (by first | exact ⟨by decide, by decide⟩ | omega)) ⟨by rw [E.2.2.2]; exact (show (rmN 188).frames + 1 ≤ (rmN 286).frames by decide), by rw [E.2.2.2]; exact (show 8 + (mNL (miB 188) + 11) + (rmN 188).locals ≤ (rmN 286).locals by decide), by rw [E.2.2.2]; exact (show 0 + (rmN 188).cells ≤ (rmN 286).cells by decide), by rw [E.2.2.2]; exact (show 0 + (rmN 188).slots ≤ (rmN 286).slots by decide)⟩ (Nat.le_of_ble_eq_true rfl) (fun vv s44 hq => ?_) (fun ee s44 hq => ?_)
    rotate_left
    · obtain ⟨rfl, e45, hv, hrs44, hps44⟩ := hq; cases hv
    obtain ⟨rfl, e45, hv, hrs44, hps44⟩ := hq
    cases hv
    show WS k 23 [(0, .ref (A 179)), (1, .int (Int32.ofInt x)), (2, .int (Int32.ofInt y)), (3, .int (Int32.ofInt z)), (4, .int (Int32.ofInt w))] [.int (Int32.ofInt e45), .ref (A 179)] (Wd A dT s6) 0 0
    refine z_if_eq X (t := 48) (show cdA 286 23 = some (.ifCond .eq 25, 3, 0, 0, 0) from rfl) (by decide) hrs44 (fun g46 => ?_) (fun g46 => ?_)
    ·
      refine z_const X (show cdA 286 48 = some (.iconst 1, 1, 0, 0, 0) from rfl) ?_
      refine z_goto X (t := 53) (show cdA 286 49 = some (.goto 4, 3, 0, 0, 0) from rfl) (by decide) ?_
      refine z_const X (show cdA 286 53 = some (.iconst 1, 1, 0, 0, 0) from rfl) ?_
      refine z_callV X 179 (rm := rmN 187) (As := [.int (Int32.ofInt 1), .int (Int32.ofInt 1)]) (st := []) (show cdA 286 54 = some (.invokevirtual 229, 3, 187, 0, 0) from rfl) rfl (by decide) rfl (by rw [E.1, E.2.1, E.2.2.1]; exact k_bad2 G Is6 (by first | exact Or.inr (by decide) | omega) (by first | exact ⟨by decide, by decide⟩ | omega)) ⟨by rw [E.2.2.2]; exact (show (rmN 187).frames + 1 ≤ (rmN 286).frames by decide), by rw [E.2.2.2]; exact (show 8 + (mNL (miB 187) + 11) + (rmN 187).locals ≤ (rmN 286).locals by decide), by rw [E.2.2.2]; exact (show 0 + (rmN 187).cells ≤ (rmN 286).cells by decide), by rw [E.2.2.2]; exact (show 0 + (rmN 187).slots ≤ (rmN 286).slots by decide)⟩ (Nat.le_of_ble_eq_true rfl) (fun vv s47 hq => ?_) (fun ee s47 hq => ?_)
      rotate_left
      · obtain ⟨Is47, Fs47, e48, hv, hrs47, hps47⟩ := hq; cases hv
      obtain ⟨Is47, Fs47, e48, hv, hrs47, hps47⟩ := hq
      cases hv
      have Gs47 := fm_ts Fs6 Fs47 (by decide) (by decide)
      have JRLx_s47 : RLx s47 := RLx_fm Fs47 (by decide) JRLx_s6
      have JMDJ_s47 : MDJ U s47 := MDJ_fm Fs47 (by decide) JMDJ_s6
      have b49 : (0 : Int) ≤ iI s47 73 ∧ iI s47 73 ≤ 3 := Is47.1 73
      have ws47_105 : iI s47 105 = iI s6 105 := fm_i Fs47 (by decide)
      have ws47_90 : iI s47 90 = iI s6 90 := fm_i Fs47 (by decide)
      have ws47_106 : iI s47 106 = iI s6 106 := fm_i Fs47 (by decide)
      have ws47_89 : iI s47 89 = iI s6 89 := fm_i Fs47 (by decide)
      show WS k 57 [(0, .ref (A 179)), (1, .int (Int32.ofInt x)), (2, .int (Int32.ofInt y)), (3, .int (Int32.ofInt z)), (4, .int (Int32.ofInt w))] [.int (Int32.ofInt e48)] (Wd A dT s47) 0 0
      refine z_if_eq X (t := 62) (show cdA 286 57 = some (.ifCond .eq 5, 3, 0, 0, 0) from rfl) (by decide) hrs47 (fun g50 => ?_) (fun g50 => ?_)
      ·
        have hst9 := jMDJ.1
        refine z_const X (show cdA 286 62 = some (.iconst 0, 1, 0, 0, 0) from rfl) ?_
        refine z_store X (lv' := [(5, .int (Int32.ofInt 0)), (0, .ref (A 179)), (1, .int (Int32.ofInt x)), (2, .int (Int32.ofInt y)), (3, .int (Int32.ofInt z)), (4, .int (Int32.ofInt w))]) (show cdA 286 63 = some (.istore 5, 2, 0, 0, 0) from rfl) (by decide) (fun _ h => h) ?_
        refine z_aload_n X (x := A 179) (show cdA 286 65 = some (.aload_n 0, 1, 0, 0, 0) from rfl) (List.Mem.tail _ (List.Mem.head _)) ?_
        refine z_const X (show cdA 286 66 = some (.iconst 0, 1, 0, 0, 0) from rfl) ?_
        refine s_putI X 179 (show cdA 286 67 = some (.putfield 431, 3, 12, 74, 0) from rfl) (by decide) rfl rfl (by decide) rfl rfl rfl ?_
        obtain ⟨s51, hs51⟩ : ∃ x0, x0 = uI s47 105 (Int32.ofInt 0) := ⟨_, rfl⟩
        rw [← hs51]
        have Is51 : Bd s51 := by rw [hs51]; exact bd_I Is47 (show (0 : Int) ≤ 0 ∧ 0 ≤ 12 by first | exact ⟨by decide, by decide⟩ | omega) (by decide)
        have Fs51 := fm_I (x := Int32.ofInt 0) Gs47 (show 105 ∈ _ by decide)
        rw [← hs51] at Fs51
        have vs51 : iI s51 105 = 0 := by rw [hs51]; exact iI_u (by decide)
        have ws51_73 : iI s51 73 = iI s47 73 := by rw [hs51]; rfl
        have ws51_90 : iI s51 90 = iI s47 90 := by rw [hs51]; rfl
        have ws51_106 : iI s51 106 = iI s47 106 := by rw [hs51]; rfl
        have ws51_89 : iI s51 89 = iI s47 89 := by rw [hs51]; rfl
        have fs51 : Fm [105] [] s47 s51 := by rw [hs51]; exact fm_I (fm_rf _ _ _) (show 105 ∈ _ by decide)
        have JRLx_s51 : RLx s51 := RLx_fm fs51 (by decide) JRLx_s47
        have JMDJ_s51 : MDJ U s51 := MDJ_fm fs51 (by decide) JMDJ_s47
        refine z_const X (show cdA 286 70 = some (.iconst 0, 1, 0, 0, 0) from rfl) ?_
        refine z_store X (lv' := [(6, .int (Int32.ofInt 0)), (5, .int (Int32.ofInt 0)), (0, .ref (A 179)), (1, .int (Int32.ofInt x)), (2, .int (Int32.ofInt y)), (3, .int (Int32.ofInt z)), (4, .int (Int32.ofInt w))]) (show cdA 286 71 = some (.istore 6, 2, 0, 0, 0) from rfl) (by decide) (fun _ h => h) ?_
        refine WS_lv (lv := [(0, .ref (A 179)), (1, .int (Int32.ofInt x)), (2, .int (Int32.ofInt y)), (3, .int (Int32.ofInt z)), (4, .int (Int32.ofInt w)), (5, .int (Int32.ofInt 0)), (6, .int (Int32.ofInt 0))]) (List.forall_mem_cons.mpr ⟨(List.Mem.tail _ (List.Mem.tail _ (List.Mem.head _))), (List.forall_mem_cons.mpr ⟨(List.Mem.tail _ (List.Mem.tail _ (List.Mem.tail _ (List.Mem.head _)))), (List.forall_mem_cons.mpr ⟨(List.Mem.tail _ (List.Mem.tail _ (List.Mem.tail _ (List.Mem.tail _ (List.Mem.head _))))), (List.forall_mem_cons.mpr ⟨(List.Mem.tail _ (List.Mem.tail _ (List.Mem.tail _ (List.Mem.tail _ (List.Mem.tail _ (List.Mem.head _)))))), (List.forall_mem_cons.mpr ⟨(List.Mem.tail _ (List.Mem.tail _ (List.Mem.tail _ (List.Mem.tail _ (List.Mem.tail _ (List.Mem.tail _ (List.Mem.head _))))))), (List.forall_mem_cons.mpr ⟨(List.Mem.tail _ (List.Mem.head _)), (List.forall_mem_cons.mpr ⟨(List.Mem.head _), (fun q h => absurd h List.not_mem_nil)⟩)⟩)⟩)⟩)⟩)⟩)⟩) ?_
        refine L73 ((12 - 0 : Int).toNat + 1) s51 0 0 Is51 Fs51 JRLx_s51 JMDJ_s51 (hsq_0 (by first | (clear hps47 hps44 g9 hps7; omega) | (clear hps44 g9 hps7; omega) | omega)) (by first | exact ⟨oq_e5a089c2 g9 hps7, oq_4c9b0342 g50 hps47 vs6, oq_4c9b0342 g50 hps47 vs6, oq_d3994d9a g50 hps47 vs6, oq_8c407924 ws51_73 g50 b49.1 hps47 vs6, oq_29301542 ws51_89 ws47_89 ws6_89 p4 b5.1, oq_d0d2714e ws51_90 ws6_90 ws47_90, oq_9014f91b g50 hps47 vs6, And.intro (by decide) (by decide), And.intro (by decide) (b3.1), oq_0b35aa92 vs51, oq_1af0b4f8 vs51⟩ | omega) (Nat.lt_succ_self _) ?_
        intro s52 x53 x54 Is52 Fs52 JRLx_s52 JMDJ_s52 Qs52 hs52
        have b55 : (0 : Int) ≤ iI s52 73 ∧ iI s52 73 ≤ 3 := Is52.1 73
        have b56 : (0 : Int) ≤ iI s52 105 ∧ iI s52 105 ≤ 12 := Is52.1 105
        have b57 : (0 : Int) ≤ iI s52 90 ∧ iI s52 90 ≤ 12 := Is52.1 90
        have b58 : ((-2147483648) : Int) ≤ iI s52 106 ∧ iI s52 106 ≤ 2147483647 := Is52.1 106
        have b59 : (1 : Int) ≤ iI s52 89 ∧ iI s52 89 ≤ 8 := Is52.1 89
        have hHS : HSQ (hitP U (stM s) (x : Int).toNat) (uN U : Int) x53 s52 := by have zz := Qs52; rw [show x54 = (uN U : Int) by first | (clear hps47 hps44 g9 hps7; omega) | (clear hps44 g9 hps7; omega) | omega] at zz; exact zz
        have hH1 := hHS.1
        rw [Int.toNat_natCast] at hH1
        refine z_load X (x := w) (show cdA 286 148 = some (.iload 4, 2, 0, 0, 0) from rfl) (List.Mem.tail _ (List.Mem.tail _ (List.Mem.tail _ (List.Mem.tail _ (List.Mem.head _))))) ?_
        refine z_bipush X (show cdA 286 150 = some (.bipush (-2), 2, 0, 0, (-2)) from rfl) ?_
        refine z_icmp_ne X (t := 158) (show cdA 286 152 = some (.if_icmp .ne 6, 3, 1, 0, 0) from rfl) (by decide) ⟨by first | exact p3.1 | omega, by first | exact p3.2 | omega⟩ (by decide) (fun g60 => ?_) (fun g60 => ?_)
        ·
          refine z_aload_n X (x := A 179) (show cdA 286 158 = some (.aload_n 0, 1, 0, 0, 0) from rfl) (List.Mem.head _) ?_
          refine z_const X (show cdA 286 159 = some (.iconst (-1), 1, 0, 0, 0) from rfl) ?_
          refine s_putI X 179 (show cdA 286 160 = some (.putfield 434, 3, 12, 75, 0) from rfl) (by decide) rfl rfl (by decide) rfl rfl rfl ?_
          obtain ⟨s61, hs61⟩ : ∃ x0, x0 = uI s52 106 (Int32.ofInt (-1)) := ⟨_, rfl⟩
          rw [← hs61]
          have Is61 : Bd s61 := by rw [hs61]; exact bd_I Is52 (show ((-2147483648) : Int) ≤ (-1) ∧ (-1) ≤ 2147483647 by first | exact ⟨by decide, by decide⟩ | omega) (by decide)
          have Fs61 := fm_I (x := Int32.ofInt (-1)) Fs52 (show 106 ∈ _ by decide)
          rw [← hs61] at Fs61
          have vs61 : iI s61 106 = (-1) := by rw [hs61]; exact iI_u (by decide)
          have ws61_73 : iI s61 73 = iI s52 73 := by rw [hs61]; rfl
          have ws61_105 : iI s61 105 = iI s52 105 := by rw [hs61]; rfl
          have ws61_90 : iI s61 90 = iI s52 90 := by rw [hs61]; rfl
          have ws61_89 : iI s61 89 = iI s52 89 := by rw [hs61]; rfl
          have fs61 : Fm [106] [] s52 s61 := by rw [hs61]; exact fm_I (fm_rf _ _ _) (show 106 ∈ _ by decide)
          have JRLx_s61 : RLx s61 := RLx_fm fs61 (by decide) JRLx_s52
          have JMDJ_s61 : MDJ U s61 := MDJ_fm fs61 (by decide) JMDJ_s52
          refine z_aload_n X (x := A 179) (show cdA 286 163 = some (.aload_n 0, 1, 0, 0, 0) from rfl) (List.Mem.head _) ?_
          refine z_getI X 179 (show cdA 286 164 = some (.getfield 431, 3, 12, 74, 0) from rfl) (by decide) rfl rfl ?_
          have b62 : (0 : Int) ≤ iI s61 105 ∧ iI s61 105 ≤ 12 := Is61.1 105
          refine z_bipush X (show cdA 286 167 = some (.bipush 8, 2, 0, 0, 8) from rfl) ?_
          refine z_icmp_le X (t := 174) (show cdA 286 169 = some (.if_icmp .le 5, 3, 5, 0, 0) from rfl) (by decide) (rng_to _) (by decide) (fun g63 => ?_) (fun g63 => ?_)
          ·
            have hHT : HTQ (hitP U (stM s) (x : Int).toNat) (uN U) (fun j => iC s61 400 j) := fun b hb p => (show iC s61 400 (cHt (hitP U (stM s) (x : Int).toNat) b) = iC s52 400 (cHt (hitP U (stM s) (x : Int).toNat) b) by rw [hs61]; rfl).trans (hHS.2.2.1 b (by first | (clear g60 hps47 hps44 g9 hps7; omega) | (clear hps47 hps44 g9 hps7; omega) | omega) p (by have := cht_lt (P := (hitP U (stM s) (x : Int).toNat)) hb p; omega))
            have hMZ0 : MZJ U (hitP U (stM s) (x : Int).toNat) s61 := fun b hb _ => (show iC s61 401 b = iC s52 401 b by rw [hs61]; rfl).trans (hHS.2.2.2 b (by first | (clear g60 hps47 hps44 g9 hps7; omega) | (clear hps47 hps44 g9 hps7; omega) | omega))
            refine z_const X (show cdA 286 174 = some (.iconst 0, 1, 0, 0, 0) from rfl) ?_
            refine z_store X (lv' := [(6, .int (Int32.ofInt 0)), (0, .ref (A 179)), (1, .int (Int32.ofInt x)), (2, .int (Int32.ofInt y)), (3, .int (Int32.ofInt z)), (4, .int (Int32.ofInt w)), (5, .int (Int32.ofInt x53))]) (show cdA 286 175 = some (.istore 6, 2, 0, 0, 0) from rfl) (by decide) (fun _ h => h) ?_
            refine WS_lv (lv := [(0, .ref (A 179)), (1, .int (Int32.ofInt x)), (2, .int (Int32.ofInt y)), (3, .int (Int32.ofInt z)), (4, .int (Int32.ofInt w)), (6, .int (Int32.ofInt 0))]) (List.forall_mem_cons.mpr ⟨(List.Mem.tail _ (List.Mem.head _)), (List.forall_mem_cons.mpr ⟨(List.Mem.tail _ (List.Mem.tail _ (List.Mem.head _))), (List.forall_mem_cons.mpr ⟨(List.Mem.tail _ (List.Mem.tail _ (List.Mem.tail _ (List.Mem.head _)))), (List.forall_mem_cons.mpr ⟨(List.Mem.tail _ (List.Mem.tail _ (List.Mem.tail _ (List.Mem.tail _ (List.Mem.head _))))), (List.forall_mem_cons.mpr ⟨(List.Mem.tail _ (List.Mem.tail _ (List.Mem.tail _ (List.Mem.tail _ (List.Mem.tail _ (List.Mem.head _)))))), (List.forall_mem_cons.mpr ⟨(List.Mem.head _), (fun q h => absurd h List.not_mem_nil)⟩)⟩)⟩)⟩)⟩)⟩) ?_
            refine L177 ((8 - 0 : Int).toNat + 1) s61 0 Is61 Fs61 JRLx_s61 JMDJ_s61 ⟨rnl_0, hHT, hMZ0⟩ (by first | exact ⟨And.intro (hs52.1.1) (hs52.1.2), And.intro (hs52.2.1.1) (hs52.2.1.2), And.intro (hs52.2.2.1.1) (hs52.2.2.1.2), And.intro (hs52.2.2.2.1.1) (hs52.2.2.2.1.2), oq_333640b7 ws61_73 hs52.2.2.2.2.1 b55.1, oq_b44a1c7f ws61_89 hs52.2.2.2.2.2.1 b59.1, oq_1aa5be9e ws61_90 hs52.2.2.2.2.2.2.1, And.intro (hs52.2.2.2.2.2.2.2.1.1) (hs52.2.2.2.2.2.2.2.1.2), And.intro (by decide) (b62.1), g63, oq_028bc7f3 hs52.2.1.2 hs52.2.1.1 g46 hps44, vs61⟩ | omega) (Nat.lt_succ_self _) ?_
            intro s64 x65 Is64 Fs64 JRLx_s64 JMDJ_s64 Qs64 hs64
            have b66 : (0 : Int) ≤ iI s64 73 ∧ iI s64 73 ≤ 3 := Is64.1 73
            have b67 : (0 : Int) ≤ iI s64 105 ∧ iI s64 105 ≤ 12 := Is64.1 105
            have b68 : (0 : Int) ≤ iI s64 90 ∧ iI s64 90 ≤ 12 := Is64.1 90
            have b69 : ((-2147483648) : Int) ≤ iI s64 106 ∧ iI s64 106 ≤ 2147483647 := Is64.1 106
            have b70 : (1 : Int) ≤ iI s64 89 ∧ iI s64 89 ≤ 8 := Is64.1 89
            have hGJ : GTJ U (stM s) (x : Int).toNat (fitK9 U (stM s) (x : Int).toNat (pfM s) (fun j => iC s 229 j)) s64 := ⟨⟨⟨by first | (clear g60 hps47 hps44 g9 hps7; omega) | (clear hps47 hps44 g9 hps7; omega) | omega, by first | (clear g60 hps47 hps44 g9 hps7; omega) | (clear hps47 hps44 g9 hps7; omega) | omega⟩, Qs64.2.1⟩, fun b hb p => Qs64.1 b hb p (by have := cht_lt (P := (hitP U (stM s) (x : Int).toNat)) hb p; omega), by first | (clear g60 hps47 hps44 g9 hps7; omega) | (clear hps47 hps44 g9 hps7; omega) | omega, ⟨by first | (clear g60 hps47 hps44 g9 hps7; omega) | (clear hps47 hps44 g9 hps7; omega) | omega, jMDJ.1.2, fun b hb => hMB (x : Int).toNat b (by first | (clear g60 hps47 hps44 g9 hps7; omega) | (clear hps47 hps44 g9 hps7; omega) | omega) hb⟩, by rw [show pfM s64 = pfM s from funext (fun j => fm_c Fs64 (by decide)), show (fun j => iC s64 229 j) = (fun j => iC s 229 j) from funext (fun j => fm_c Fs64 (by decide))]⟩
            refine z_aload_n X (x := A 179) (show cdA 286 203 = some (.aload_n 0, 1, 0, 0, 0) from rfl) (List.Mem.head _) ?_
            refine z_const X (show cdA 286 204 = some (.iconst 0, 1, 0, 0, 0) from rfl) ?_
            refine z_load_n X (x := x) (show cdA 286 205 = some (.iload_n 1, 1, 0, 0, 0) from rfl) (List.Mem.tail _ (List.Mem.head _)) ?_
            refine z_load_n X (x := y) (show cdA 286 206 = some (.iload_n 2, 1, 0, 0, 0) from rfl) (List.Mem.tail _ (List.Mem.tail _ (List.Mem.head _))) ?_
            refine z_load_n X (x := z) (show cdA 286 207 = some (.iload_n 3, 1, 0, 0, 0) from rfl) (List.Mem.tail _ (List.Mem.tail _ (List.Mem.tail _ (List.Mem.head _)))) ?_
            refine z_const X (show cdA 286 208 = some (.iconst 0, 1, 0, 0, 0) from rfl) ?_
            have hGP : GTP U (hitP U (stM s) (x : Int).toNat) none 0 s64 := ⟨show iI s64 106 = -1 by first | (clear g60 hps47 hps44 g9 hps7; omega) | (clear hps47 hps44 g9 hps7; omega) | omega, fun j hj => absurd hj (by first | (clear g60 hps47 hps44 g9 hps7; omega) | (clear hps47 hps44 g9 hps7; omega) | omega)⟩
            refine z_callV X 179 (rm := (rkR (52 + 8))) (As := [.int (Int32.ofInt 0), .int (Int32.ofInt x), .int (Int32.ofInt y), .int (Int32.ofInt z), .int (Int32.ofInt 0)]) (st := []) (show cdA 286 209 = some (.invokevirtual 447, 3, 285, 0, 0) from rfl) rfl (by decide) rfl (by rw [E.1, E.2.1, E.2.2.1]; exact k_gor9 G 8 Is64 JRLx_s64 JMDJ_s64 hGJ Qs64.2.2 (by first | exact ⟨by decide, b67.1⟩ | omega) (by first | exact oq_a8ea036d hs64.2.2.2.2.2.2.2.2.2.1 | omega) (by first | exact hs64.2.2.2.2.2.2.2.2.2.1 | omega) (by first | exact oq_028bc7f3 hs64.2.1.2 hs64.2.1.1 g46 hps44 | omega) (by first | exact ⟨hs64.1.1, hs64.1.2⟩ | omega) (by first | exact ⟨hs64.2.1.1, hs64.2.1.2⟩ | omega) (by first | exact ⟨hs64.2.2.1.1, hs64.2.2.1.2⟩ | omega) (by first | exact ⟨by decide, by decide⟩ | omega) (hGP)) ⟨by rw [E.2.2.2]; exact (show 72 + 1 ≤ 73 from oq_26188e76), by rw [E.2.2.2]; exact (show 8 + (8 + 11) + 3200 ≤ 3227 from oq_e592698d), by rw [E.2.2.2]; exact Nat.le_refl 0, by rw [E.2.2.2]; exact Nat.le_refl 0⟩ (Nat.le_of_ble_eq_true rfl) (fun vv s71 hq => ?_) (fun ee s71 hq => ?_)
            rotate_left
            · obtain ⟨Is71, Fs71, JRLx_s71, JMZJ_s71, hv, hps71⟩ := hq; cases hv
            obtain ⟨Is71, Fs71, JRLx_s71, JMZJ_s71, hv, hps71⟩ := hq
            cases hv
            have Gs71 := fm_ts Fs64 Fs71 (by decide) (by decide)
            have JRLx_s71 : RLx s71 := RLx_fm Fs71 (by decide) JRLx_s64
            have JMDJ_s71 : MDJ U s71 := MDJ_fm Fs71 (by decide) JMDJ_s64
            have JGTJ_s71 : GTJ U (stM s) (x : Int).toNat (fitK9 U (stM s) (x : Int).toNat (pfM s) (fun j => iC s 229 j)) s71 := GTJ_fm Fs71 (by decide) hGJ
            have ws71_73 : iI s71 73 = iI s64 73 := fm_i Fs71 (by decide)
            have ws71_105 : iI s71 105 = iI s64 105 := fm_i Fs71 (by decide)
            have ws71_90 : iI s71 90 = iI s64 90 := fm_i Fs71 (by decide)
            have b73 : ((-2147483648) : Int) ≤ iI s71 106 ∧ iI s71 106 ≤ 2147483647 := Is71.1 106
            have ws71_89 : iI s71 89 = iI s64 89 := fm_i Fs71 (by decide)
            show WS k 212 [(0, .ref (A 179)), (1, .int (Int32.ofInt x)), (2, .int (Int32.ofInt y)), (3, .int (Int32.ofInt z)), (4, .int (Int32.ofInt w)), (6, .int (Int32.ofInt x65))] [] (Wd A dT s71) 0 0
            have hBS := slm_of hps71
            refine z_aload_n X (x := A 179) (show cdA 286 212 = some (.aload_n 0, 1, 0, 0, 0) from rfl) (List.Mem.head _) ?_
            refine z_getI X 179 (show cdA 286 213 = some (.getfield 434, 3, 12, 75, 0) from rfl) (by decide) rfl rfl ?_
            have b74 : ((-2147483648) : Int) ≤ iI s71 106 ∧ iI s71 106 ≤ 2147483647 := Is71.1 106
            refine z_const X (show cdA 286 216 = some (.iconst (-1), 1, 0, 0, 0) from rfl) ?_
            refine z_icmp_ne X (t := 224) (show cdA 286 217 = some (.if_icmp .ne 7, 3, 1, 0, 0) from rfl) (by decide) (rng_to _) (by decide) (fun g75 => ?_) (fun g75 => ?_)
            ·
              refine z_load X (x := w) (show cdA 286 224 = some (.iload 4, 2, 0, 0, 0) from rfl) (List.Mem.tail _ (List.Mem.tail _ (List.Mem.tail _ (List.Mem.tail _ (List.Mem.head _))))) ?_
              refine z_const X (show cdA 286 226 = some (.iconst (-1), 1, 0, 0, 0) from rfl) ?_
              refine z_icmp_ne X (t := 237) (show cdA 286 227 = some (.if_icmp .ne 10, 3, 1, 0, 0) from rfl) (by decide) ⟨by first | exact p3.1 | omega, by first | exact p3.2 | omega⟩ (by decide) (fun g76 => ?_) (fun g76 => ?_)
              ·
                refine z_load X (x := w) (show cdA 286 237 = some (.iload 4, 2, 0, 0, 0) from rfl) (List.Mem.tail _ (List.Mem.tail _ (List.Mem.tail _ (List.Mem.tail _ (List.Mem.head _))))) ?_
                refine z_aload_n X (x := A 179) (show cdA 286 239 = some (.aload_n 0, 1, 0, 0, 0) from rfl) (List.Mem.head _) ?_
                refine z_getI X 179 (show cdA 286 240 = some (.getfield 233, 3, 12, 22, 0) from rfl) (by decide) rfl rfl ?_
                have b77 : (0 : Int) ≤ iI s71 90 ∧ iI s71 90 ≤ 12 := Is71.1 90
                refine z_icmp_ge X (t := 256) (show cdA 286 243 = some (.if_icmp .ge 13, 3, 3, 0, 0) from rfl) (by decide) ⟨by first | exact p3.1 | omega, by first | exact p3.2 | omega⟩ (rng_to _) (fun g78 => ?_) (fun g78 => ?_)
                ·
                  refine z_const X (show cdA 286 256 = some (.iconst 0, 1, 0, 0, 0) from rfl) ?_
                  exact w_iret X.1 q hRt rfl (ax_d X (show cdA 286 257 = some (.ireturn, 1, 0, 0, 0) from rfl)) (Nat.zero_le _) (Nat.zero_le _) ⟨_, rfl, Is71, Gs71, JRLx_s71, 0, rfl, (by decide), Or.inl ⟨by first | exact ⟨hs64.1.1, hs64.1.2⟩ | omega, by first | exact ⟨hs64.2.1.1, hs64.2.1.2⟩ | omega, by first | exact ⟨hs64.2.2.1.1, hs64.2.2.1.2⟩ | omega, by first | exact ⟨hs64.2.2.2.1.1, hs64.2.2.2.1.2⟩ | omega, by first | exact oq_333640b7 ws71_73 hs64.2.2.2.2.1 b66.1 | omega, mnm_s hBS (by first | (clear g76 g75 g60 hps47 hps44 g9 hps7; omega) | (clear g75 g60 hps47 hps44 g9 hps7; omega) | omega) (by first | (clear g76 g75 g60 hps47 hps44 g9 hps7; omega) | (clear g75 g60 hps47 hps44 g9 hps7; omega) | omega) (by first | (clear g76 g75 g60 hps47 hps44 g9 hps7; omega) | (clear g75 g60 hps47 hps44 g9 hps7; omega) | omega) (Or.inr ⟨by first | (clear g76 g75 g60 hps47 hps44 g9 hps7; omega) | (clear g75 g60 hps47 hps44 g9 hps7; omega) | omega, rfl⟩)⟩⟩
                ·
                  refine z_aload_n X (x := A 179) (show cdA 286 246 = some (.aload_n 0, 1, 0, 0, 0) from rfl) (List.Mem.head _) ?_
                  refine s_getR X 179 (show cdA 286 247 = some (.getfield 148, 3, 12, 70, 0) from rfl) (by decide) rfl rfl ?_
                  refine z_load X (x := w) (show cdA 286 250 = some (.iload 4, 2, 0, 0, 0) from rfl) (List.Mem.tail _ (List.Mem.tail _ (List.Mem.tail _ (List.Mem.tail _ (List.Mem.head _))))) ?_
                  refine z_ald X 457 (show cdA 286 252 = some (.iaload, 1, 0, 0, 0) from rfl) (by decide) rfl (by first | exact oq_33feeab9 g76 hs64.2.2.2.1.1 g60 | omega) (show w < 12 by first | exact oq_0ddfcfee hs64.2.2.2.1.2 | omega) (by decide) ?_
                  have b79 : (0 : Int) ≤ iC s71 402 (w).toNat ∧ iC s71 402 (w).toNat ≤ 3 := Is71.2 402 _ (show (w).toNat < 12 by first | exact oq_9c5fa447 hs64.2.2.2.1.2 | omega)
                  refine z_goto X (t := 257) (show cdA 286 253 = some (.goto 4, 3, 0, 0, 0) from rfl) (by decide) ?_
                  exact w_iret X.1 q hRt rfl (ax_d X (show cdA 286 257 = some (.ireturn, 1, 0, 0, 0) from rfl)) (Nat.zero_le _) (Nat.zero_le _) ⟨_, rfl, Is71, Gs71, JRLx_s71, (iC s71 402 (w).toNat), rfl, (rng_to _), Or.inl ⟨by first | exact ⟨hs64.1.1, hs64.1.2⟩ | omega, by first | exact ⟨hs64.2.1.1, hs64.2.1.2⟩ | omega, by first | exact ⟨hs64.2.2.1.1, hs64.2.2.1.2⟩ | omega, by first | exact ⟨hs64.2.2.2.1.1, hs64.2.2.2.1.2⟩ | omega, by first | exact oq_333640b7 ws71_73 hs64.2.2.2.2.1 b66.1 | omega, mnm_s hBS (by first | (clear g76 g75 g60 hps47 hps44 g9 hps7; omega) | (clear g75 g60 hps47 hps44 g9 hps7; omega) | omega) (by first | (clear g76 g75 g60 hps47 hps44 g9 hps7; omega) | (clear g75 g60 hps47 hps44 g9 hps7; omega) | omega) (by first | (clear g76 g75 g60 hps47 hps44 g9 hps7; omega) | (clear g75 g60 hps47 hps44 g9 hps7; omega) | omega) (Or.inl ⟨by first | (clear g76 g75 g60 hps47 hps44 g9 hps7; omega) | (clear g75 g60 hps47 hps44 g9 hps7; omega) | omega, rfl⟩)⟩⟩
              ·
                refine z_aload_n X (x := A 179) (show cdA 286 230 = some (.aload_n 0, 1, 0, 0, 0) from rfl) (List.Mem.head _) ?_
                refine z_getI X 179 (show cdA 286 231 = some (.getfield 434, 3, 12, 75, 0) from rfl) (by decide) rfl rfl ?_
                have b80 : ((-2147483648) : Int) ≤ iI s71 106 ∧ iI s71 106 ≤ 2147483647 := Is71.1 106
                refine z_goto X (t := 257) (show cdA 286 234 = some (.goto 23, 3, 0, 0, 0) from rfl) (by decide) ?_
                exact w_iret X.1 q hRt rfl (ax_d X (show cdA 286 257 = some (.ireturn, 1, 0, 0, 0) from rfl)) (Nat.zero_le _) (Nat.zero_le _) ⟨_, rfl, Is71, Gs71, JRLx_s71, (iI s71 106), rfl, (rng_to _), Or.inl ⟨by first | exact ⟨hs64.1.1, hs64.1.2⟩ | omega, by first | exact ⟨hs64.2.1.1, hs64.2.1.2⟩ | omega, by first | exact ⟨hs64.2.2.1.1, hs64.2.2.1.2⟩ | omega, by first | exact ⟨hs64.2.2.2.1.1, hs64.2.2.2.1.2⟩ | omega, by first | exact oq_333640b7 ws71_73 hs64.2.2.2.2.1 b66.1 | omega, mnm_m hBS (by first | (clear g75 g60 hps47 hps44 g9 hps7; omega) | (clear g60 hps47 hps44 g9 hps7; omega) | omega) (by first | (clear g75 g60 hps47 hps44 g9 hps7; omega) | (clear g60 hps47 hps44 g9 hps7; omega) | omega) ⟨by first | (clear g75 g60 hps47 hps44 g9 hps7; omega) | (clear g60 hps47 hps44 g9 hps7; omega) | omega, rfl⟩⟩⟩
            ·
              refine z_const X (show cdA 286 220 = some (.iconst (-1), 1, 0, 0, 0) from rfl) ?_
              refine z_goto X (t := 257) (show cdA 286 221 = some (.goto 36, 3, 0, 0, 0) from rfl) (by decide) ?_
              exact w_iret X.1 q hRt rfl (ax_d X (show cdA 286 257 = some (.ireturn, 1, 0, 0, 0) from rfl)) (Nat.zero_le _) (Nat.zero_le _) ⟨_, rfl, Is71, Gs71, JRLx_s71, (-1), rfl, (by decide), Or.inl ⟨by first | exact ⟨hs64.1.1, hs64.1.2⟩ | omega, by first | exact ⟨hs64.2.1.1, hs64.2.1.2⟩ | omega, by first | exact ⟨hs64.2.2.1.1, hs64.2.2.1.2⟩ | omega, by first | exact ⟨hs64.2.2.2.1.1, hs64.2.2.2.1.2⟩ | omega, by first | exact oq_333640b7 ws71_73 hs64.2.2.2.2.1 b66.1 | omega, Or.inr (Or.inl ⟨by first | (clear g60 hps47 hps44 g9 hps7; omega) | (clear hps47 hps44 g9 hps7; omega) | omega, Or.inr (bso9_0 hBS (by first | (clear g60 hps47 hps44 g9 hps7; omega) | (clear hps47 hps44 g9 hps7; omega) | omega)), rfl⟩)⟩⟩
          ·
            refine z_const X (show cdA 286 172 = some (.iconst (-1), 1, 0, 0, 0) from rfl) ?_
            exact w_iret X.1 q hRt rfl (ax_d X (show cdA 286 173 = some (.ireturn, 1, 0, 0, 0) from rfl)) (Nat.zero_le _) (Nat.zero_le _) ⟨_, rfl, Is61, Fs61, JRLx_s61, (-1), rfl, (by decide), Or.inl ⟨by first | exact ⟨hs52.1.1, hs52.1.2⟩ | omega, by first | exact ⟨hs52.2.1.1, hs52.2.1.2⟩ | omega, by first | exact ⟨hs52.2.2.1.1, hs52.2.2.1.2⟩ | omega, by first | exact ⟨hs52.2.2.2.1.1, hs52.2.2.2.1.2⟩ | omega, by first | exact oq_333640b7 ws61_73 hs52.2.2.2.2.1 b55.1 | omega, Or.inr (Or.inl ⟨by first | (clear g60 hps47 hps44 g9 hps7; omega) | (clear hps47 hps44 g9 hps7; omega) | omega, Or.inl (by first | (clear g60 hps47 hps44 g9 hps7; omega) | (clear hps47 hps44 g9 hps7; omega) | omega), rfl⟩)⟩⟩
        ·
          refine z_load X (x := x53) (show cdA 286 155 = some (.iload 5, 2, 0, 0, 0) from rfl) (List.Mem.tail _ (List.Mem.tail _ (List.Mem.tail _ (List.Mem.tail _ (List.Mem.tail _ (List.Mem.head _)))))) ?_
          exact w_iret X.1 q hRt rfl (ax_d X (show cdA 286 157 = some (.ireturn, 1, 0, 0, 0) from rfl)) (Nat.zero_le _) (Nat.zero_le _) ⟨_, rfl, Is52, Fs52, JRLx_s52, x53, rfl, ⟨by first | exact hs52.2.2.2.2.2.2.2.2.1.1 | omega, by first | exact hs52.2.2.2.2.2.2.2.2.1.2 | omega⟩, Or.inl ⟨by first | exact ⟨hs52.1.1, hs52.1.2⟩ | omega, by first | exact ⟨hs52.2.1.1, hs52.2.1.2⟩ | omega, by first | exact ⟨hs52.2.2.1.1, hs52.2.2.1.2⟩ | omega, by first | exact ⟨hs52.2.2.2.1.1, hs52.2.2.2.1.2⟩ | omega, by first | exact hs52.2.2.2.2.1 | omega, Or.inl ⟨by first | (clear hps47 hps44 g9 hps7; omega) | (clear hps44 g9 hps7; omega) | omega, ⟨by first | exact hs52.2.2.2.2.2.2.2.2.1.1 | omega, by first | exact hs52.2.2.2.2.2.2.2.2.1.2 | omega⟩, by have zz := hHS.2.1; rw [Int.toNat_natCast] at zz; exact zz⟩⟩⟩
      ·
        refine z_const X (show cdA 286 60 = some (.iconst 0, 1, 0, 0, 0) from rfl) ?_
        exact w_iret X.1 q hRt rfl (ax_d X (show cdA 286 61 = some (.ireturn, 1, 0, 0, 0) from rfl)) (Nat.zero_le _) (Nat.zero_le _) ⟨_, rfl, Is47, Gs47, JRLx_s47, 0, rfl, (by decide), Or.inr ⟨by first | exact oq_23424b26 g46 hps44 | omega, by first | exact oq_faabd673 g50 hps47 vs6 | omega⟩⟩
    ·
      refine z_load_n X (x := z) (show cdA 286 26 = some (.iload_n 3, 1, 0, 0, 0) from rfl) (List.Mem.tail _ (List.Mem.tail _ (List.Mem.tail _ (List.Mem.head _)))) ?_
      refine z_const X (show cdA 286 27 = some (.iconst 0, 1, 0, 0, 0) from rfl) ?_
      refine z_bipush X (show cdA 286 28 = some (.bipush 8, 2, 0, 0, 8) from rfl) ?_
      refine z_callS X (rm := rmN 188) (As := [.int (Int32.ofInt z), .int (Int32.ofInt 0), .int (Int32.ofInt 8)]) (st := [.ref (A 179)]) (show cdA 286 30 = some (.invokestatic 209, 3, 188, 1, 0) from rfl) rfl (by rw [E.1, E.2.1, E.2.2.1]; exact k_in2 G Is6 (by first | exact ⟨p2.1, p2.2⟩ | omega) (by first | exact ⟨by decide, by decide⟩ | omega) (by first | exact ⟨by decide, by decide⟩ | omega)) ⟨by rw [E.2.2.2]; exact (show (rmN 188).frames + 1 ≤ (rmN 286).frames by decide), by rw [E.2.2.2]; exact (show 8 + (mNL (miB 188) + 11) + (rmN 188).locals ≤ (rmN 286).locals by decide), by rw [E.2.2.2]; exact (show 0 + (rmN 188).cells ≤ (rmN 286).cells by decide), by rw [E.2.2.2]; exact (show 0 + (rmN 188).slots ≤ (rmN 286).slots by decide)⟩ (Nat.le_of_ble_eq_true rfl) (fun vv s81 hq => ?_) (fun ee s81 hq => ?_)
      rotate_left
      · obtain ⟨rfl, e82, hv, hrs81, hps81⟩ := hq; cases hv
      obtain ⟨rfl, e82, hv, hrs81, hps81⟩ := hq
      cases hv
      show WS k 33 [(0, .ref (A 179)), (1, .int (Int32.ofInt x)), (2, .int (Int32.ofInt y)), (3, .int (Int32.ofInt z)), (4, .int (Int32.ofInt w))] [.int (Int32.ofInt e82), .ref (A 179)] (Wd A dT s6) 0 0
      refine z_if_eq X (t := 48) (show cdA 286 33 = some (.ifCond .eq 15, 3, 0, 0, 0) from rfl) (by decide) hrs81 (fun g83 => ?_) (fun g83 => ?_)
      ·
        refine z_const X (show cdA 286 48 = some (.iconst 1, 1, 0, 0, 0) from rfl) ?_
        refine z_goto X (t := 53) (show cdA 286 49 = some (.goto 4, 3, 0, 0, 0) from rfl) (by decide) ?_
        refine z_const X (show cdA 286 53 = some (.iconst 1, 1, 0, 0, 0) from rfl) ?_
        refine z_callV X 179 (rm := rmN 187) (As := [.int (Int32.ofInt 1), .int (Int32.ofInt 1)]) (st := []) (show cdA 286 54 = some (.invokevirtual 229, 3, 187, 0, 0) from rfl) rfl (by decide) rfl (by rw [E.1, E.2.1, E.2.2.1]; exact k_bad2 G Is6 (by first | exact Or.inr (by decide) | omega) (by first | exact ⟨by decide, by decide⟩ | omega)) ⟨by rw [E.2.2.2]; exact (show (rmN 187).frames + 1 ≤ (rmN 286).frames by decide), by rw [E.2.2.2]; exact (show 8 + (mNL (miB 187) + 11) + (rmN 187).locals ≤ (rmN 286).locals by decide), by rw [E.2.2.2]; exact (show 0 + (rmN 187).cells ≤ (rmN 286).cells by decide), by rw [E.2.2.2]; exact (show 0 + (rmN 187).slots ≤ (rmN 286).slots by decide)⟩ (Nat.le_of_ble_eq_true rfl) (fun vv s84 hq => ?_) (fun ee s84 hq => ?_)
        rotate_left
        · obtain ⟨Is84, Fs84, e85, hv, hrs84, hps84⟩ := hq; cases hv
        obtain ⟨Is84, Fs84, e85, hv, hrs84, hps84⟩ := hq
        cases hv
        have Gs84 := fm_ts Fs6 Fs84 (by decide) (by decide)
        have JRLx_s84 : RLx s84 := RLx_fm Fs84 (by decide) JRLx_s6
        have JMDJ_s84 : MDJ U s84 := MDJ_fm Fs84 (by decide) JMDJ_s6
        have b86 : (0 : Int) ≤ iI s84 73 ∧ iI s84 73 ≤ 3 := Is84.1 73
        have ws84_105 : iI s84 105 = iI s6 105 := fm_i Fs84 (by decide)
        have ws84_90 : iI s84 90 = iI s6 90 := fm_i Fs84 (by decide)
        have ws84_106 : iI s84 106 = iI s6 106 := fm_i Fs84 (by decide)
        have ws84_89 : iI s84 89 = iI s6 89 := fm_i Fs84 (by decide)
        show WS k 57 [(0, .ref (A 179)), (1, .int (Int32.ofInt x)), (2, .int (Int32.ofInt y)), (3, .int (Int32.ofInt z)), (4, .int (Int32.ofInt w))] [.int (Int32.ofInt e85)] (Wd A dT s84) 0 0
        refine z_if_eq X (t := 62) (show cdA 286 57 = some (.ifCond .eq 5, 3, 0, 0, 0) from rfl) (by decide) hrs84 (fun g87 => ?_) (fun g87 => ?_)
        ·
          have hst9 := jMDJ.1
          refine z_const X (show cdA 286 62 = some (.iconst 0, 1, 0, 0, 0) from rfl) ?_
          refine z_store X (lv' := [(5, .int (Int32.ofInt 0)), (0, .ref (A 179)), (1, .int (Int32.ofInt x)), (2, .int (Int32.ofInt y)), (3, .int (Int32.ofInt z)), (4, .int (Int32.ofInt w))]) (show cdA 286 63 = some (.istore 5, 2, 0, 0, 0) from rfl) (by decide) (fun _ h => h) ?_
          refine z_aload_n X (x := A 179) (show cdA 286 65 = some (.aload_n 0, 1, 0, 0, 0) from rfl) (List.Mem.tail _ (List.Mem.head _)) ?_
          refine z_const X (show cdA 286 66 = some (.iconst 0, 1, 0, 0, 0) from rfl) ?_
          refine s_putI X 179 (show cdA 286 67 = some (.putfield 431, 3, 12, 74, 0) from rfl) (by decide) rfl rfl (by decide) rfl rfl rfl ?_
          obtain ⟨s88, hs88⟩ : ∃ x0, x0 = uI s84 105 (Int32.ofInt 0) := ⟨_, rfl⟩
          rw [← hs88]
          have Is88 : Bd s88 := by rw [hs88]; exact bd_I Is84 (show (0 : Int) ≤ 0 ∧ 0 ≤ 12 by first | exact ⟨by decide, by decide⟩ | omega) (by decide)
          have Fs88 := fm_I (x := Int32.ofInt 0) Gs84 (show 105 ∈ _ by decide)
          rw [← hs88] at Fs88
          have vs88 : iI s88 105 = 0 := by rw [hs88]; exact iI_u (by decide)
          have ws88_73 : iI s88 73 = iI s84 73 := by rw [hs88]; rfl
          have ws88_90 : iI s88 90 = iI s84 90 := by rw [hs88]; rfl
          have ws88_106 : iI s88 106 = iI s84 106 := by rw [hs88]; rfl
          have ws88_89 : iI s88 89 = iI s84 89 := by rw [hs88]; rfl
          have fs88 : Fm [105] [] s84 s88 := by rw [hs88]; exact fm_I (fm_rf _ _ _) (show 105 ∈ _ by decide)
          have JRLx_s88 : RLx s88 := RLx_fm fs88 (by decide) JRLx_s84
          have JMDJ_s88 : MDJ U s88 := MDJ_fm fs88 (by decide) JMDJ_s84
          refine z_const X (show cdA 286 70 = some (.iconst 0, 1, 0, 0, 0) from rfl) ?_
          refine z_store X (lv' := [(6, .int (Int32.ofInt 0)), (5, .int (Int32.ofInt 0)), (0, .ref (A 179)), (1, .int (Int32.ofInt x)), (2, .int (Int32.ofInt y)), (3, .int (Int32.ofInt z)), (4, .int (Int32.ofInt w))]) (show cdA 286 71 = some (.istore 6, 2, 0, 0, 0) from rfl) (by decide) (fun _ h => h) ?_
          refine WS_lv (lv := [(0, .ref (A 179)), (1, .int (Int32.ofInt x)), (2, .int (Int32.ofInt y)), (3, .int (Int32.ofInt z)), (4, .int (Int32.ofInt w)), (5, .int (Int32.ofInt 0)), (6, .int (Int32.ofInt 0))]) (List.forall_mem_cons.mpr ⟨(List.Mem.tail _ (List.Mem.tail _ (List.Mem.head _))), (List.forall_mem_cons.mpr ⟨(List.Mem.tail _ (List.Mem.tail _ (List.Mem.tail _ (List.Mem.head _)))), (List.forall_mem_cons.mpr ⟨(List.Mem.tail _ (List.Mem.tail _ (List.Mem.tail _ (List.Mem.tail _ (List.Mem.head _))))), (List.forall_mem_cons.mpr ⟨(List.Mem.tail _ (List.Mem.tail _ (List.Mem.tail _ (List.Mem.tail _ (List.Mem.tail _ (List.Mem.head _)))))), (List.forall_mem_cons.mpr ⟨(List.Mem.tail _ (List.Mem.tail _ (List.Mem.tail _ (List.Mem.tail _ (List.Mem.tail _ (List.Mem.tail _ (List.Mem.head _))))))), (List.forall_mem_cons.mpr ⟨(List.Mem.tail _ (List.Mem.head _)), (List.forall_mem_cons.mpr ⟨(List.Mem.head _), (fun q h => absurd h List.not_mem_nil)⟩)⟩)⟩)⟩)⟩)⟩)⟩) ?_
          refine L73 ((12 - 0 : Int).toNat + 1) s88 0 0 Is88 Fs88 JRLx_s88 JMDJ_s88 (hsq_0 (by first | (clear hps84 hps81 g46 hps44 g9 hps7; omega) | (clear hps81 g46 hps44 g9 hps7; omega) | omega)) (by first | exact ⟨oq_e5a089c2 g9 hps7, oq_5933ef41 g46 hps44, oq_4c9b0342 g87 hps84 vs6, oq_d3994d9a g87 hps84 vs6, oq_8c407924 ws88_73 g87 b86.1 hps84 vs6, oq_29301542 ws88_89 ws84_89 ws6_89 p4 b5.1, oq_d0d2714e ws88_90 ws6_90 ws84_90, oq_9014f91b g87 hps84 vs6, And.intro (by decide) (by decide), And.intro (by decide) (b3.1), oq_0b35aa92 vs88, oq_1af0b4f8 vs88⟩ | omega) (Nat.lt_succ_self _) ?_
          intro s89 x90 x91 Is89 Fs89 JRLx_s89 JMDJ_s89 Qs89 hs89
          have b92 : (0 : Int) ≤ iI s89 73 ∧ iI s89 73 ≤ 3 := Is89.1 73
          have b93 : (0 : Int) ≤ iI s89 105 ∧ iI s89 105 ≤ 12 := Is89.1 105
          have b94 : (0 : Int) ≤ iI s89 90 ∧ iI s89 90 ≤ 12 := Is89.1 90
          have b95 : ((-2147483648) : Int) ≤ iI s89 106 ∧ iI s89 106 ≤ 2147483647 := Is89.1 106
          have b96 : (1 : Int) ≤ iI s89 89 ∧ iI s89 89 ≤ 8 := Is89.1 89
          have hHS : HSQ (hitP U (stM s) (x : Int).toNat) (uN U : Int) x90 s89 := by have zz := Qs89; rw [show x91 = (uN U : Int) by first | (clear hps84 hps81 g46 hps44 g9 hps7; omega) | (clear hps81 g46 hps44 g9 hps7; omega) | omega] at zz; exact zz
          have hH1 := hHS.1
          rw [Int.toNat_natCast] at hH1
          refine z_load X (x := w) (show cdA 286 148 = some (.iload 4, 2, 0, 0, 0) from rfl) (List.Mem.tail _ (List.Mem.tail _ (List.Mem.tail _ (List.Mem.tail _ (List.Mem.head _))))) ?_
          refine z_bipush X (show cdA 286 150 = some (.bipush (-2), 2, 0, 0, (-2)) from rfl) ?_
          refine z_icmp_ne X (t := 158) (show cdA 286 152 = some (.if_icmp .ne 6, 3, 1, 0, 0) from rfl) (by decide) ⟨by first | exact p3.1 | omega, by first | exact p3.2 | omega⟩ (by decide) (fun g97 => ?_) (fun g97 => ?_)
          ·
            refine z_aload_n X (x := A 179) (show cdA 286 158 = some (.aload_n 0, 1, 0, 0, 0) from rfl) (List.Mem.head _) ?_
            refine z_const X (show cdA 286 159 = some (.iconst (-1), 1, 0, 0, 0) from rfl) ?_
            refine s_putI X 179 (show cdA 286 160 = some (.putfield 434, 3, 12, 75, 0) from rfl) (by decide) rfl rfl (by decide) rfl rfl rfl ?_
            obtain ⟨s98, hs98⟩ : ∃ x0, x0 = uI s89 106 (Int32.ofInt (-1)) := ⟨_, rfl⟩
            rw [← hs98]
            have Is98 : Bd s98 := by rw [hs98]; exact bd_I Is89 (show ((-2147483648) : Int) ≤ (-1) ∧ (-1) ≤ 2147483647 by first | exact ⟨by decide, by decide⟩ | omega) (by decide)
            have Fs98 := fm_I (x := Int32.ofInt (-1)) Fs89 (show 106 ∈ _ by decide)
            rw [← hs98] at Fs98
            have vs98 : iI s98 106 = (-1) := by rw [hs98]; exact iI_u (by decide)
            have ws98_73 : iI s98 73 = iI s89 73 := by rw [hs98]; rfl
            have ws98_105 : iI s98 105 = iI s89 105 := by rw [hs98]; rfl
            have ws98_90 : iI s98 90 = iI s89 90 := by rw [hs98]; rfl
            have ws98_89 : iI s98 89 = iI s89 89 := by rw [hs98]; rfl
            have fs98 : Fm [106] [] s89 s98 := by rw [hs98]; exact fm_I (fm_rf _ _ _) (show 106 ∈ _ by decide)
            have JRLx_s98 : RLx s98 := RLx_fm fs98 (by decide) JRLx_s89
            have JMDJ_s98 : MDJ U s98 := MDJ_fm fs98 (by decide) JMDJ_s89
            refine z_aload_n X (x := A 179) (show cdA 286 163 = some (.aload_n 0, 1, 0, 0, 0) from rfl) (List.Mem.head _) ?_
            refine z_getI X 179 (show cdA 286 164 = some (.getfield 431, 3, 12, 74, 0) from rfl) (by decide) rfl rfl ?_
            have b99 : (0 : Int) ≤ iI s98 105 ∧ iI s98 105 ≤ 12 := Is98.1 105
            refine z_bipush X (show cdA 286 167 = some (.bipush 8, 2, 0, 0, 8) from rfl) ?_
            refine z_icmp_le X (t := 174) (show cdA 286 169 = some (.if_icmp .le 5, 3, 5, 0, 0) from rfl) (by decide) (rng_to _) (by decide) (fun g100 => ?_) (fun g100 => ?_)
            ·
              have hHT : HTQ (hitP U (stM s) (x : Int).toNat) (uN U) (fun j => iC s98 400 j) := fun b hb p => (show iC s98 400 (cHt (hitP U (stM s) (x : Int).toNat) b) = iC s89 400 (cHt (hitP U (stM s) (x : Int).toNat) b) by rw [hs98]; rfl).trans (hHS.2.2.1 b (by first | (clear g97 hps84 hps81 g46 hps44 g9 hps7; omega) | (clear hps84 hps81 g46 hps44 g9 hps7; omega) | omega) p (by have := cht_lt (P := (hitP U (stM s) (x : Int).toNat)) hb p; omega))
              have hMZ0 : MZJ U (hitP U (stM s) (x : Int).toNat) s98 := fun b hb _ => (show iC s98 401 b = iC s89 401 b by rw [hs98]; rfl).trans (hHS.2.2.2 b (by first | (clear g97 hps84 hps81 g46 hps44 g9 hps7; omega) | (clear hps84 hps81 g46 hps44 g9 hps7; omega) | omega))
              refine z_const X (show cdA 286 174 = some (.iconst 0, 1, 0, 0, 0) from rfl) ?_
              refine z_store X (lv' := [(6, .int (Int32.ofInt 0)), (0, .ref (A 179)), (1, .int (Int32.ofInt x)), (2, .int (Int32.ofInt y)), (3, .int (Int32.ofInt z)), (4, .int (Int32.ofInt w)), (5, .int (Int32.ofInt x90))]) (show cdA 286 175 = some (.istore 6, 2, 0, 0, 0) from rfl) (by decide) (fun _ h => h) ?_
              refine WS_lv (lv := [(0, .ref (A 179)), (1, .int (Int32.ofInt x)), (2, .int (Int32.ofInt y)), (3, .int (Int32.ofInt z)), (4, .int (Int32.ofInt w)), (6, .int (Int32.ofInt 0))]) (List.forall_mem_cons.mpr ⟨(List.Mem.tail _ (List.Mem.head _)), (List.forall_mem_cons.mpr ⟨(List.Mem.tail _ (List.Mem.tail _ (List.Mem.head _))), (List.forall_mem_cons.mpr ⟨(List.Mem.tail _ (List.Mem.tail _ (List.Mem.tail _ (List.Mem.head _)))), (List.forall_mem_cons.mpr ⟨(List.Mem.tail _ (List.Mem.tail _ (List.Mem.tail _ (List.Mem.tail _ (List.Mem.head _))))), (List.forall_mem_cons.mpr ⟨(List.Mem.tail _ (List.Mem.tail _ (List.Mem.tail _ (List.Mem.tail _ (List.Mem.tail _ (List.Mem.head _)))))), (List.forall_mem_cons.mpr ⟨(List.Mem.head _), (fun q h => absurd h List.not_mem_nil)⟩)⟩)⟩)⟩)⟩)⟩) ?_
              refine L177 ((8 - 0 : Int).toNat + 1) s98 0 Is98 Fs98 JRLx_s98 JMDJ_s98 ⟨rnl_0, hHT, hMZ0⟩ (by first | exact ⟨And.intro (hs89.1.1) (hs89.1.2), And.intro (hs89.2.1.1) (hs89.2.1.2), And.intro (hs89.2.2.1.1) (hs89.2.2.1.2), And.intro (hs89.2.2.2.1.1) (hs89.2.2.2.1.2), oq_333640b7 ws98_73 hs89.2.2.2.2.1 b92.1, oq_b44a1c7f ws98_89 hs89.2.2.2.2.2.1 b96.1, oq_1aa5be9e ws98_90 hs89.2.2.2.2.2.2.1, And.intro (hs89.2.2.2.2.2.2.2.1.1) (hs89.2.2.2.2.2.2.2.1.2), And.intro (by decide) (b99.1), g100, oq_028bc7f3 hs89.2.2.1.2 hs89.2.2.1.1 g83 hps81, vs98⟩ | omega) (Nat.lt_succ_self _) ?_
              intro s101 x102 Is101 Fs101 JRLx_s101 JMDJ_s101 Qs101 hs101
              have b103 : (0 : Int) ≤ iI s101 73 ∧ iI s101 73 ≤ 3 := Is101.1 73
              have b104 : (0 : Int) ≤ iI s101 105 ∧ iI s101 105 ≤ 12 := Is101.1 105
              have b105 : (0 : Int) ≤ iI s101 90 ∧ iI s101 90 ≤ 12 := Is101.1 90
              have b106 : ((-2147483648) : Int) ≤ iI s101 106 ∧ iI s101 106 ≤ 2147483647 := Is101.1 106
              have b107 : (1 : Int) ≤ iI s101 89 ∧ iI s101 89 ≤ 8 := Is101.1 89
              have hGJ : GTJ U (stM s) (x : Int).toNat (fitK9 U (stM s) (x : Int).toNat (pfM s) (fun j => iC s 229 j)) s101 := ⟨⟨⟨by first | (clear g97 hps84 hps81 g46 hps44 g9 hps7; omega) | (clear hps84 hps81 g46 hps44 g9 hps7; omega) | omega, by first | (clear g97 hps84 hps81 g46 hps44 g9 hps7; omega) | (clear hps84 hps81 g46 hps44 g9 hps7; omega) | omega⟩, Qs101.2.1⟩, fun b hb p => Qs101.1 b hb p (by have := cht_lt (P := (hitP U (stM s) (x : Int).toNat)) hb p; omega), by first | (clear g97 hps84 hps81 g46 hps44 g9 hps7; omega) | (clear hps84 hps81 g46 hps44 g9 hps7; omega) | omega, ⟨by first | (clear g97 hps84 hps81 g46 hps44 g9 hps7; omega) | (clear hps84 hps81 g46 hps44 g9 hps7; omega) | omega, jMDJ.1.2, fun b hb => hMB (x : Int).toNat b (by first | (clear g97 hps84 hps81 g46 hps44 g9 hps7; omega) | (clear hps84 hps81 g46 hps44 g9 hps7; omega) | omega) hb⟩, by rw [show pfM s101 = pfM s from funext (fun j => fm_c Fs101 (by decide)), show (fun j => iC s101 229 j) = (fun j => iC s 229 j) from funext (fun j => fm_c Fs101 (by decide))]⟩
              refine z_aload_n X (x := A 179) (show cdA 286 203 = some (.aload_n 0, 1, 0, 0, 0) from rfl) (List.Mem.head _) ?_
              refine z_const X (show cdA 286 204 = some (.iconst 0, 1, 0, 0, 0) from rfl) ?_
              refine z_load_n X (x := x) (show cdA 286 205 = some (.iload_n 1, 1, 0, 0, 0) from rfl) (List.Mem.tail _ (List.Mem.head _)) ?_
              refine z_load_n X (x := y) (show cdA 286 206 = some (.iload_n 2, 1, 0, 0, 0) from rfl) (List.Mem.tail _ (List.Mem.tail _ (List.Mem.head _))) ?_
              refine z_load_n X (x := z) (show cdA 286 207 = some (.iload_n 3, 1, 0, 0, 0) from rfl) (List.Mem.tail _ (List.Mem.tail _ (List.Mem.tail _ (List.Mem.head _)))) ?_
              refine z_const X (show cdA 286 208 = some (.iconst 0, 1, 0, 0, 0) from rfl) ?_
              have hGP : GTP U (hitP U (stM s) (x : Int).toNat) none 0 s101 := ⟨show iI s101 106 = -1 by first | (clear g97 hps84 hps81 g46 hps44 g9 hps7; omega) | (clear hps84 hps81 g46 hps44 g9 hps7; omega) | omega, fun j hj => absurd hj (by first | (clear g97 hps84 hps81 g46 hps44 g9 hps7; omega) | (clear hps84 hps81 g46 hps44 g9 hps7; omega) | omega)⟩
              refine z_callV X 179 (rm := (rkR (52 + 8))) (As := [.int (Int32.ofInt 0), .int (Int32.ofInt x), .int (Int32.ofInt y), .int (Int32.ofInt z), .int (Int32.ofInt 0)]) (st := []) (show cdA 286 209 = some (.invokevirtual 447, 3, 285, 0, 0) from rfl) rfl (by decide) rfl (by rw [E.1, E.2.1, E.2.2.1]; exact k_gor9 G 8 Is101 JRLx_s101 JMDJ_s101 hGJ Qs101.2.2 (by first | exact ⟨by decide, b104.1⟩ | omega) (by first | exact oq_a8ea036d hs101.2.2.2.2.2.2.2.2.2.1 | omega) (by first | exact hs101.2.2.2.2.2.2.2.2.2.1 | omega) (by first | exact oq_028bc7f3 hs101.2.2.1.2 hs101.2.2.1.1 g83 hps81 | omega) (by first | exact ⟨hs101.1.1, hs101.1.2⟩ | omega) (by first | exact ⟨hs101.2.1.1, hs101.2.1.2⟩ | omega) (by first | exact ⟨hs101.2.2.1.1, hs101.2.2.1.2⟩ | omega) (by first | exact ⟨by decide, by decide⟩ | omega) (hGP)) ⟨by rw [E.2.2.2]; exact (show 72 + 1 ≤ 73 from oq_26188e76), by rw [E.2.2.2]; exact (show 8 + (8 + 11) + 3200 ≤ 3227 from oq_e592698d), by rw [E.2.2.2]; exact Nat.le_refl 0, by rw [E.2.2.2]; exact Nat.le_refl 0⟩ (Nat.le_of_ble_eq_true rfl) (fun vv s108 hq => ?_) (fun ee s108 hq => ?_)
              rotate_left
              · obtain ⟨Is108, Fs108, JRLx_s108, JMZJ_s108, hv, hps108⟩ := hq; cases hv
              obtain ⟨Is108, Fs108, JRLx_s108, JMZJ_s108, hv, hps108⟩ := hq
              cases hv
              have Gs108 := fm_ts Fs101 Fs108 (by decide) (by decide)
              have JRLx_s108 : RLx s108 := RLx_fm Fs108 (by decide) JRLx_s101
              have JMDJ_s108 : MDJ U s108 := MDJ_fm Fs108 (by decide) JMDJ_s101
              have JGTJ_s108 : GTJ U (stM s) (x : Int).toNat (fitK9 U (stM s) (x : Int).toNat (pfM s) (fun j => iC s 229 j)) s108 := GTJ_fm Fs108 (by decide) hGJ
              have ws108_73 : iI s108 73 = iI s101 73 := fm_i Fs108 (by decide)
              have ws108_105 : iI s108 105 = iI s101 105 := fm_i Fs108 (by decide)
              have ws108_90 : iI s108 90 = iI s101 90 := fm_i Fs108 (by decide)
              have b110 : ((-2147483648) : Int) ≤ iI s108 106 ∧ iI s108 106 ≤ 2147483647 := Is108.1 106
              have ws108_89 : iI s108 89 = iI s101 89 := fm_i Fs108 (by decide)
              show WS k 212 [(0, .ref (A 179)), (1, .int (Int32.ofInt x)), (2, .int (Int32.ofInt y)), (3, .int (Int32.ofInt z)), (4, .int (Int32.ofInt w)), (6, .int (Int32.ofInt x102))] [] (Wd A dT s108) 0 0
              have hBS := slm_of hps108
              refine z_aload_n X (x := A 179) (show cdA 286 212 = some (.aload_n 0, 1, 0, 0, 0) from rfl) (List.Mem.head _) ?_
              refine z_getI X 179 (show cdA 286 213 = some (.getfield 434, 3, 12, 75, 0) from rfl) (by decide) rfl rfl ?_
              have b111 : ((-2147483648) : Int) ≤ iI s108 106 ∧ iI s108 106 ≤ 2147483647 := Is108.1 106
              refine z_const X (show cdA 286 216 = some (.iconst (-1), 1, 0, 0, 0) from rfl) ?_
              refine z_icmp_ne X (t := 224) (show cdA 286 217 = some (.if_icmp .ne 7, 3, 1, 0, 0) from rfl) (by decide) (rng_to _) (by decide) (fun g112 => ?_) (fun g112 => ?_)
              ·
                refine z_load X (x := w) (show cdA 286 224 = some (.iload 4, 2, 0, 0, 0) from rfl) (List.Mem.tail _ (List.Mem.tail _ (List.Mem.tail _ (List.Mem.tail _ (List.Mem.head _))))) ?_
                refine z_const X (show cdA 286 226 = some (.iconst (-1), 1, 0, 0, 0) from rfl) ?_
                refine z_icmp_ne X (t := 237) (show cdA 286 227 = some (.if_icmp .ne 10, 3, 1, 0, 0) from rfl) (by decide) ⟨by first | exact p3.1 | omega, by first | exact p3.2 | omega⟩ (by decide) (fun g113 => ?_) (fun g113 => ?_)
                ·
                  refine z_load X (x := w) (show cdA 286 237 = some (.iload 4, 2, 0, 0, 0) from rfl) (List.Mem.tail _ (List.Mem.tail _ (List.Mem.tail _ (List.Mem.tail _ (List.Mem.head _))))) ?_
                  refine z_aload_n X (x := A 179) (show cdA 286 239 = some (.aload_n 0, 1, 0, 0, 0) from rfl) (List.Mem.head _) ?_
                  refine z_getI X 179 (show cdA 286 240 = some (.getfield 233, 3, 12, 22, 0) from rfl) (by decide) rfl rfl ?_
                  have b114 : (0 : Int) ≤ iI s108 90 ∧ iI s108 90 ≤ 12 := Is108.1 90
                  refine z_icmp_ge X (t := 256) (show cdA 286 243 = some (.if_icmp .ge 13, 3, 3, 0, 0) from rfl) (by decide) ⟨by first | exact p3.1 | omega, by first | exact p3.2 | omega⟩ (rng_to _) (fun g115 => ?_) (fun g115 => ?_)
                  ·
                    refine z_const X (show cdA 286 256 = some (.iconst 0, 1, 0, 0, 0) from rfl) ?_
                    exact w_iret X.1 q hRt rfl (ax_d X (show cdA 286 257 = some (.ireturn, 1, 0, 0, 0) from rfl)) (Nat.zero_le _) (Nat.zero_le _) ⟨_, rfl, Is108, Gs108, JRLx_s108, 0, rfl, (by decide), Or.inl ⟨by first | exact ⟨hs101.1.1, hs101.1.2⟩ | omega, by first | exact ⟨hs101.2.1.1, hs101.2.1.2⟩ | omega, by first | exact ⟨hs101.2.2.1.1, hs101.2.2.1.2⟩ | omega, by first | exact ⟨hs101.2.2.2.1.1, hs101.2.2.2.1.2⟩ | omega, by first | exact oq_333640b7 ws108_73 hs101.2.2.2.2.1 b103.1 | omega, mnm_s hBS (by first | (clear g113 g112 g97 hps84 hps81 g46 hps44 g9 hps7; omega) | (clear g112 g97 hps84 hps81 g46 hps44 g9 hps7; omega) | omega) (by first | (clear g113 g112 g97 hps84 hps81 g46 hps44 g9 hps7; omega) | (clear g112 g97 hps84 hps81 g46 hps44 g9 hps7; omega) | omega) (by first | (clear g113 g112 g97 hps84 hps81 g46 hps44 g9 hps7; omega) | (clear g112 g97 hps84 hps81 g46 hps44 g9 hps7; omega) | omega) (Or.inr ⟨by first | (clear g113 g112 g97 hps84 hps81 g46 hps44 g9 hps7; omega) | (clear g112 g97 hps84 hps81 g46 hps44 g9 hps7; omega) | omega, rfl⟩)⟩⟩
                  ·
                    refine z_aload_n X (x := A 179) (show cdA 286 246 = some (.aload_n 0, 1, 0, 0, 0) from rfl) (List.Mem.head _) ?_
                    refine s_getR X 179 (show cdA 286 247 = some (.getfield 148, 3, 12, 70, 0) from rfl) (by decide) rfl rfl ?_
                    refine z_load X (x := w) (show cdA 286 250 = some (.iload 4, 2, 0, 0, 0) from rfl) (List.Mem.tail _ (List.Mem.tail _ (List.Mem.tail _ (List.Mem.tail _ (List.Mem.head _))))) ?_
                    refine z_ald X 457 (show cdA 286 252 = some (.iaload, 1, 0, 0, 0) from rfl) (by decide) rfl (by first | exact oq_33feeab9 g113 hs101.2.2.2.1.1 g97 | omega) (show w < 12 by first | exact oq_0ddfcfee hs101.2.2.2.1.2 | omega) (by decide) ?_
                    have b116 : (0 : Int) ≤ iC s108 402 (w).toNat ∧ iC s108 402 (w).toNat ≤ 3 := Is108.2 402 _ (show (w).toNat < 12 by first | exact oq_9c5fa447 hs101.2.2.2.1.2 | omega)
                    refine z_goto X (t := 257) (show cdA 286 253 = some (.goto 4, 3, 0, 0, 0) from rfl) (by decide) ?_
                    exact w_iret X.1 q hRt rfl (ax_d X (show cdA 286 257 = some (.ireturn, 1, 0, 0, 0) from rfl)) (Nat.zero_le _) (Nat.zero_le _) ⟨_, rfl, Is108, Gs108, JRLx_s108, (iC s108 402 (w).toNat), rfl, (rng_to _), Or.inl ⟨by first | exact ⟨hs101.1.1, hs101.1.2⟩ | omega, by first | exact ⟨hs101.2.1.1, hs101.2.1.2⟩ | omega, by first | exact ⟨hs101.2.2.1.1, hs101.2.2.1.2⟩ | omega, by first | exact ⟨hs101.2.2.2.1.1, hs101.2.2.2.1.2⟩ | omega, by first | exact oq_333640b7 ws108_73 hs101.2.2.2.2.1 b103.1 | omega, mnm_s hBS (by first | (clear g113 g112 g97 hps84 hps81 g46 hps44 g9 hps7; omega) | (clear g112 g97 hps84 hps81 g46 hps44 g9 hps7; omega) | omega) (by first | (clear g113 g112 g97 hps84 hps81 g46 hps44 g9 hps7; omega) | (clear g112 g97 hps84 hps81 g46 hps44 g9 hps7; omega) | omega) (by first | (clear g113 g112 g97 hps84 hps81 g46 hps44 g9 hps7; omega) | (clear g112 g97 hps84 hps81 g46 hps44 g9 hps7; omega) | omega) (Or.inl ⟨by first | (clear g113 g112 g97 hps84 hps81 g46 hps44 g9 hps7; omega) | (clear g112 g97 hps84 hps81 g46 hps44 g9 hps7; omega) | omega, rfl⟩)⟩⟩
                ·
                  refine z_aload_n X (x := A 179) (show cdA 286 230 = some (.aload_n 0, 1, 0, 0, 0) from rfl) (List.Mem.head _) ?_
                  refine z_getI X 179 (show cdA 286 231 = some (.getfield 434, 3, 12, 75, 0) from rfl) (by decide) rfl rfl ?_
                  have b117 : ((-2147483648) : Int) ≤ iI s108 106 ∧ iI s108 106 ≤ 2147483647 := Is108.1 106
                  refine z_goto X (t := 257) (show cdA 286 234 = some (.goto 23, 3, 0, 0, 0) from rfl) (by decide) ?_
                  exact w_iret X.1 q hRt rfl (ax_d X (show cdA 286 257 = some (.ireturn, 1, 0, 0, 0) from rfl)) (Nat.zero_le _) (Nat.zero_le _) ⟨_, rfl, Is108, Gs108, JRLx_s108, (iI s108 106), rfl, (rng_to _), Or.inl ⟨by first | exact ⟨hs101.1.1, hs101.1.2⟩ | omega, by first | exact ⟨hs101.2.1.1, hs101.2.1.2⟩ | omega, by first | exact ⟨hs101.2.2.1.1, hs101.2.2.1.2⟩ | omega, by first | exact ⟨hs101.2.2.2.1.1, hs101.2.2.2.1.2⟩ | omega, by first | exact oq_333640b7 ws108_73 hs101.2.2.2.2.1 b103.1 | omega, mnm_m hBS (by first | (clear g112 g97 hps84 hps81 g46 hps44 g9 hps7; omega) | (clear g97 hps84 hps81 g46 hps44 g9 hps7; omega) | omega) (by first | (clear g112 g97 hps84 hps81 g46 hps44 g9 hps7; omega) | (clear g97 hps84 hps81 g46 hps44 g9 hps7; omega) | omega) ⟨by first | (clear g112 g97 hps84 hps81 g46 hps44 g9 hps7; omega) | (clear g97 hps84 hps81 g46 hps44 g9 hps7; omega) | omega, rfl⟩⟩⟩
              ·
                refine z_const X (show cdA 286 220 = some (.iconst (-1), 1, 0, 0, 0) from rfl) ?_
                refine z_goto X (t := 257) (show cdA 286 221 = some (.goto 36, 3, 0, 0, 0) from rfl) (by decide) ?_
                exact w_iret X.1 q hRt rfl (ax_d X (show cdA 286 257 = some (.ireturn, 1, 0, 0, 0) from rfl)) (Nat.zero_le _) (Nat.zero_le _) ⟨_, rfl, Is108, Gs108, JRLx_s108, (-1), rfl, (by decide), Or.inl ⟨by first | exact ⟨hs101.1.1, hs101.1.2⟩ | omega, by first | exact ⟨hs101.2.1.1, hs101.2.1.2⟩ | omega, by first | exact ⟨hs101.2.2.1.1, hs101.2.2.1.2⟩ | omega, by first | exact ⟨hs101.2.2.2.1.1, hs101.2.2.2.1.2⟩ | omega, by first | exact oq_333640b7 ws108_73 hs101.2.2.2.2.1 b103.1 | omega, Or.inr (Or.inl ⟨by first | (clear g97 hps84 hps81 g46 hps44 g9 hps7; omega) | (clear hps84 hps81 g46 hps44 g9 hps7; omega) | omega, Or.inr (bso9_0 hBS (by first | (clear g97 hps84 hps81 g46 hps44 g9 hps7; omega) | (clear hps84 hps81 g46 hps44 g9 hps7; omega) | omega)), rfl⟩)⟩⟩
            ·
              refine z_const X (show cdA 286 172 = some (.iconst (-1), 1, 0, 0, 0) from rfl) ?_
              exact w_iret X.1 q hRt rfl (ax_d X (show cdA 286 173 = some (.ireturn, 1, 0, 0, 0) from rfl)) (Nat.zero_le _) (Nat.zero_le _) ⟨_, rfl, Is98, Fs98, JRLx_s98, (-1), rfl, (by decide), Or.inl ⟨by first | exact ⟨hs89.1.1, hs89.1.2⟩ | omega, by first | exact ⟨hs89.2.1.1, hs89.2.1.2⟩ | omega, by first | exact ⟨hs89.2.2.1.1, hs89.2.2.1.2⟩ | omega, by first | exact ⟨hs89.2.2.2.1.1, hs89.2.2.2.1.2⟩ | omega, by first | exact oq_333640b7 ws98_73 hs89.2.2.2.2.1 b92.1 | omega, Or.inr (Or.inl ⟨by first | (clear g97 hps84 hps81 g46 hps44 g9 hps7; omega) | (clear hps84 hps81 g46 hps44 g9 hps7; omega) | omega, Or.inl (by first | (clear g97 hps84 hps81 g46 hps44 g9 hps7; omega) | (clear hps84 hps81 g46 hps44 g9 hps7; omega) | omega), rfl⟩)⟩⟩
          ·
            refine z_load X (x := x90) (show cdA 286 155 = some (.iload 5, 2, 0, 0, 0) from rfl) (List.Mem.tail _ (List.Mem.tail _ (List.Mem.tail _ (List.Mem.tail _ (List.Mem.tail _ (List.Mem.head _)))))) ?_
            exact w_iret X.1 q hRt rfl (ax_d X (show cdA 286 157 = some (.ireturn, 1, 0, 0, 0) from rfl)) (Nat.zero_le _) (Nat.zero_le _) ⟨_, rfl, Is89, Fs89, JRLx_s89, x90, rfl, ⟨by first | exact hs89.2.2.2.2.2.2.2.2.1.1 | omega, by first | exact hs89.2.2.2.2.2.2.2.2.1.2 | omega⟩, Or.inl ⟨by first | exact ⟨hs89.1.1, hs89.1.2⟩ | omega, by first | exact ⟨hs89.2.1.1, hs89.2.1.2⟩ | omega, by first | exact ⟨hs89.2.2.1.1, hs89.2.2.1.2⟩ | omega, by first | exact ⟨hs89.2.2.2.1.1, hs89.2.2.2.1.2⟩ | omega, by first | exact hs89.2.2.2.2.1 | omega, Or.inl ⟨by first | (clear hps84 hps81 g46 hps44 g9 hps7; omega) | (clear hps81 g46 hps44 g9 hps7; omega) | omega, ⟨by first | exact hs89.2.2.2.2.2.2.2.2.1.1 | omega, by first | exact hs89.2.2.2.2.2.2.2.2.1.2 | omega⟩, by have zz := hHS.2.1; rw [Int.toNat_natCast] at zz; exact zz⟩⟩⟩
        ·
          refine z_const X (show cdA 286 60 = some (.iconst 0, 1, 0, 0, 0) from rfl) ?_
          exact w_iret X.1 q hRt rfl (ax_d X (show cdA 286 61 = some (.ireturn, 1, 0, 0, 0) from rfl)) (Nat.zero_le _) (Nat.zero_le _) ⟨_, rfl, Is84, Gs84, JRLx_s84, 0, rfl, (by decide), Or.inr ⟨by first | exact oq_5f471880 g83 hps81 | omega, by first | exact oq_faabd673 g87 hps84 vs6 | omega⟩⟩
      ·
        refine z_load X (x := w) (show cdA 286 36 = some (.iload 4, 2, 0, 0, 0) from rfl) (List.Mem.tail _ (List.Mem.tail _ (List.Mem.tail _ (List.Mem.tail _ (List.Mem.head _))))) ?_
        refine z_bipush X (show cdA 286 38 = some (.bipush (-2), 2, 0, 0, (-2)) from rfl) ?_
        refine z_bipush X (show cdA 286 40 = some (.bipush 11, 2, 0, 0, 11) from rfl) ?_
        refine z_callS X (rm := rmN 188) (As := [.int (Int32.ofInt w), .int (Int32.ofInt (-2)), .int (Int32.ofInt 11)]) (st := [.ref (A 179)]) (show cdA 286 42 = some (.invokestatic 209, 3, 188, 1, 0) from rfl) rfl (by rw [E.1, E.2.1, E.2.2.1]; exact k_in2 G Is6 (by first | exact ⟨p3.1, p3.2⟩ | omega) (by first | exact ⟨by decide, by decide⟩ | omega) (by first | exact ⟨by decide, by decide⟩ | omega)) ⟨by rw [E.2.2.2]; exact (show (rmN 188).frames + 1 ≤ (rmN 286).frames by decide), by rw [E.2.2.2]; exact (show 8 + (mNL (miB 188) + 11) + (rmN 188).locals ≤ (rmN 286).locals by decide), by rw [E.2.2.2]; exact (show 0 + (rmN 188).cells ≤ (rmN 286).cells by decide), by rw [E.2.2.2]; exact (show 0 + (rmN 188).slots ≤ (rmN 286).slots by decide)⟩ (Nat.le_of_ble_eq_true rfl) (fun vv s118 hq => ?_) (fun ee s118 hq => ?_)
        rotate_left
        · obtain ⟨rfl, e119, hv, hrs118, hps118⟩ := hq; cases hv
        obtain ⟨rfl, e119, hv, hrs118, hps118⟩ := hq
        cases hv
        show WS k 45 [(0, .ref (A 179)), (1, .int (Int32.ofInt x)), (2, .int (Int32.ofInt y)), (3, .int (Int32.ofInt z)), (4, .int (Int32.ofInt w))] [.int (Int32.ofInt e119), .ref (A 179)] (Wd A dT s6) 0 0
        refine z_if_ne X (t := 52) (show cdA 286 45 = some (.ifCond .ne 7, 3, 1, 0, 0) from rfl) (by decide) hrs118 (fun g120 => ?_) (fun g120 => ?_)
        ·
          refine z_const X (show cdA 286 52 = some (.iconst 0, 1, 0, 0, 0) from rfl) ?_
          refine z_const X (show cdA 286 53 = some (.iconst 1, 1, 0, 0, 0) from rfl) ?_
          refine z_callV X 179 (rm := rmN 187) (As := [.int (Int32.ofInt 0), .int (Int32.ofInt 1)]) (st := []) (show cdA 286 54 = some (.invokevirtual 229, 3, 187, 0, 0) from rfl) rfl (by decide) rfl (by rw [E.1, E.2.1, E.2.2.1]; exact k_bad2 G Is6 (by first | exact Or.inl (by decide) | omega) (by first | exact ⟨by decide, by decide⟩ | omega)) ⟨by rw [E.2.2.2]; exact (show (rmN 187).frames + 1 ≤ (rmN 286).frames by decide), by rw [E.2.2.2]; exact (show 8 + (mNL (miB 187) + 11) + (rmN 187).locals ≤ (rmN 286).locals by decide), by rw [E.2.2.2]; exact (show 0 + (rmN 187).cells ≤ (rmN 286).cells by decide), by rw [E.2.2.2]; exact (show 0 + (rmN 187).slots ≤ (rmN 286).slots by decide)⟩ (Nat.le_of_ble_eq_true rfl) (fun vv s121 hq => ?_) (fun ee s121 hq => ?_)
          rotate_left
          · obtain ⟨Is121, Fs121, e122, hv, hrs121, hps121⟩ := hq; cases hv
          obtain ⟨Is121, Fs121, e122, hv, hrs121, hps121⟩ := hq
          cases hv
          have Gs121 := fm_ts Fs6 Fs121 (by decide) (by decide)
          have JRLx_s121 : RLx s121 := RLx_fm Fs121 (by decide) JRLx_s6
          have JMDJ_s121 : MDJ U s121 := MDJ_fm Fs121 (by decide) JMDJ_s6
          have b123 : (0 : Int) ≤ iI s121 73 ∧ iI s121 73 ≤ 3 := Is121.1 73
          have ws121_105 : iI s121 105 = iI s6 105 := fm_i Fs121 (by decide)
          have ws121_90 : iI s121 90 = iI s6 90 := fm_i Fs121 (by decide)
          have ws121_106 : iI s121 106 = iI s6 106 := fm_i Fs121 (by decide)
          have ws121_89 : iI s121 89 = iI s6 89 := fm_i Fs121 (by decide)
          show WS k 57 [(0, .ref (A 179)), (1, .int (Int32.ofInt x)), (2, .int (Int32.ofInt y)), (3, .int (Int32.ofInt z)), (4, .int (Int32.ofInt w))] [.int (Int32.ofInt e122)] (Wd A dT s121) 0 0
          refine z_if_eq X (t := 62) (show cdA 286 57 = some (.ifCond .eq 5, 3, 0, 0, 0) from rfl) (by decide) hrs121 (fun g124 => ?_) (fun g124 => ?_)
          ·
            have hst9 := jMDJ.1
            refine z_const X (show cdA 286 62 = some (.iconst 0, 1, 0, 0, 0) from rfl) ?_
            refine z_store X (lv' := [(5, .int (Int32.ofInt 0)), (0, .ref (A 179)), (1, .int (Int32.ofInt x)), (2, .int (Int32.ofInt y)), (3, .int (Int32.ofInt z)), (4, .int (Int32.ofInt w))]) (show cdA 286 63 = some (.istore 5, 2, 0, 0, 0) from rfl) (by decide) (fun _ h => h) ?_
            refine z_aload_n X (x := A 179) (show cdA 286 65 = some (.aload_n 0, 1, 0, 0, 0) from rfl) (List.Mem.tail _ (List.Mem.head _)) ?_
            refine z_const X (show cdA 286 66 = some (.iconst 0, 1, 0, 0, 0) from rfl) ?_
            refine s_putI X 179 (show cdA 286 67 = some (.putfield 431, 3, 12, 74, 0) from rfl) (by decide) rfl rfl (by decide) rfl rfl rfl ?_
            obtain ⟨s125, hs125⟩ : ∃ x0, x0 = uI s121 105 (Int32.ofInt 0) := ⟨_, rfl⟩
            rw [← hs125]
            have Is125 : Bd s125 := by rw [hs125]; exact bd_I Is121 (show (0 : Int) ≤ 0 ∧ 0 ≤ 12 by first | exact ⟨by decide, by decide⟩ | omega) (by decide)
            have Fs125 := fm_I (x := Int32.ofInt 0) Gs121 (show 105 ∈ _ by decide)
            rw [← hs125] at Fs125
            have vs125 : iI s125 105 = 0 := by rw [hs125]; exact iI_u (by decide)
            have ws125_73 : iI s125 73 = iI s121 73 := by rw [hs125]; rfl
            have ws125_90 : iI s125 90 = iI s121 90 := by rw [hs125]; rfl
            have ws125_106 : iI s125 106 = iI s121 106 := by rw [hs125]; rfl
            have ws125_89 : iI s125 89 = iI s121 89 := by rw [hs125]; rfl
            have fs125 : Fm [105] [] s121 s125 := by rw [hs125]; exact fm_I (fm_rf _ _ _) (show 105 ∈ _ by decide)
            have JRLx_s125 : RLx s125 := RLx_fm fs125 (by decide) JRLx_s121
            have JMDJ_s125 : MDJ U s125 := MDJ_fm fs125 (by decide) JMDJ_s121
            refine z_const X (show cdA 286 70 = some (.iconst 0, 1, 0, 0, 0) from rfl) ?_
            refine z_store X (lv' := [(6, .int (Int32.ofInt 0)), (5, .int (Int32.ofInt 0)), (0, .ref (A 179)), (1, .int (Int32.ofInt x)), (2, .int (Int32.ofInt y)), (3, .int (Int32.ofInt z)), (4, .int (Int32.ofInt w))]) (show cdA 286 71 = some (.istore 6, 2, 0, 0, 0) from rfl) (by decide) (fun _ h => h) ?_
            refine WS_lv (lv := [(0, .ref (A 179)), (1, .int (Int32.ofInt x)), (2, .int (Int32.ofInt y)), (3, .int (Int32.ofInt z)), (4, .int (Int32.ofInt w)), (5, .int (Int32.ofInt 0)), (6, .int (Int32.ofInt 0))]) (List.forall_mem_cons.mpr ⟨(List.Mem.tail _ (List.Mem.tail _ (List.Mem.head _))), (List.forall_mem_cons.mpr ⟨(List.Mem.tail _ (List.Mem.tail _ (List.Mem.tail _ (List.Mem.head _)))), (List.forall_mem_cons.mpr ⟨(List.Mem.tail _ (List.Mem.tail _ (List.Mem.tail _ (List.Mem.tail _ (List.Mem.head _))))), (List.forall_mem_cons.mpr ⟨(List.Mem.tail _ (List.Mem.tail _ (List.Mem.tail _ (List.Mem.tail _ (List.Mem.tail _ (List.Mem.head _)))))), (List.forall_mem_cons.mpr ⟨(List.Mem.tail _ (List.Mem.tail _ (List.Mem.tail _ (List.Mem.tail _ (List.Mem.tail _ (List.Mem.tail _ (List.Mem.head _))))))), (List.forall_mem_cons.mpr ⟨(List.Mem.tail _ (List.Mem.head _)), (List.forall_mem_cons.mpr ⟨(List.Mem.head _), (fun q h => absurd h List.not_mem_nil)⟩)⟩)⟩)⟩)⟩)⟩)⟩) ?_
            refine L73 ((12 - 0 : Int).toNat + 1) s125 0 0 Is125 Fs125 JRLx_s125 JMDJ_s125 (hsq_0 (by first | (clear hps121 g120 hps118 g83 hps81 g46 hps44 g9 hps7; omega) | (clear g120 hps118 g83 hps81 g46 hps44 g9 hps7; omega) | omega)) (by first | (clear hps121 g120 hps118 g83 hps81 g46 hps44 g9 hps7; omega) | (clear g120 hps118 g83 hps81 g46 hps44 g9 hps7; omega) | omega) (Nat.lt_succ_self _) ?_
            intro s126 x127 x128 Is126 Fs126 JRLx_s126 JMDJ_s126 Qs126 hs126
            have b129 : (0 : Int) ≤ iI s126 73 ∧ iI s126 73 ≤ 3 := Is126.1 73
            have b130 : (0 : Int) ≤ iI s126 105 ∧ iI s126 105 ≤ 12 := Is126.1 105
            have b131 : (0 : Int) ≤ iI s126 90 ∧ iI s126 90 ≤ 12 := Is126.1 90
            have b132 : ((-2147483648) : Int) ≤ iI s126 106 ∧ iI s126 106 ≤ 2147483647 := Is126.1 106
            have b133 : (1 : Int) ≤ iI s126 89 ∧ iI s126 89 ≤ 8 := Is126.1 89
            have hHS : HSQ (hitP U (stM s) (x : Int).toNat) (uN U : Int) x127 s126 := by have zz := Qs126; rw [show x128 = (uN U : Int) by first | (clear hps121 g120 hps118 g83 hps81 g46 hps44 g9 hps7; omega) | (clear g120 hps118 g83 hps81 g46 hps44 g9 hps7; omega) | omega] at zz; exact zz
            have hH1 := hHS.1
            rw [Int.toNat_natCast] at hH1
            refine z_load X (x := w) (show cdA 286 148 = some (.iload 4, 2, 0, 0, 0) from rfl) (List.Mem.tail _ (List.Mem.tail _ (List.Mem.tail _ (List.Mem.tail _ (List.Mem.head _))))) ?_
            refine z_bipush X (show cdA 286 150 = some (.bipush (-2), 2, 0, 0, (-2)) from rfl) ?_
            refine z_icmp_ne X (t := 158) (show cdA 286 152 = some (.if_icmp .ne 6, 3, 1, 0, 0) from rfl) (by decide) ⟨by first | exact p3.1 | omega, by first | exact p3.2 | omega⟩ (by decide) (fun g134 => ?_) (fun g134 => ?_)
            ·
              refine z_aload_n X (x := A 179) (show cdA 286 158 = some (.aload_n 0, 1, 0, 0, 0) from rfl) (List.Mem.head _) ?_
              refine z_const X (show cdA 286 159 = some (.iconst (-1), 1, 0, 0, 0) from rfl) ?_
              refine s_putI X 179 (show cdA 286 160 = some (.putfield 434, 3, 12, 75, 0) from rfl) (by decide) rfl rfl (by decide) rfl rfl rfl ?_
              obtain ⟨s135, hs135⟩ : ∃ x0, x0 = uI s126 106 (Int32.ofInt (-1)) := ⟨_, rfl⟩
              rw [← hs135]
              have Is135 : Bd s135 := by rw [hs135]; exact bd_I Is126 (show ((-2147483648) : Int) ≤ (-1) ∧ (-1) ≤ 2147483647 by first | exact ⟨by decide, by decide⟩ | omega) (by decide)
              have Fs135 := fm_I (x := Int32.ofInt (-1)) Fs126 (show 106 ∈ _ by decide)
              rw [← hs135] at Fs135
              have vs135 : iI s135 106 = (-1) := by rw [hs135]; exact iI_u (by decide)
              have ws135_73 : iI s135 73 = iI s126 73 := by rw [hs135]; rfl
              have ws135_105 : iI s135 105 = iI s126 105 := by rw [hs135]; rfl
              have ws135_90 : iI s135 90 = iI s126 90 := by rw [hs135]; rfl
              have ws135_89 : iI s135 89 = iI s126 89 := by rw [hs135]; rfl
              have fs135 : Fm [106] [] s126 s135 := by rw [hs135]; exact fm_I (fm_rf _ _ _) (show 106 ∈ _ by decide)
              have JRLx_s135 : RLx s135 := RLx_fm fs135 (by decide) JRLx_s126
              have JMDJ_s135 : MDJ U s135 := MDJ_fm fs135 (by decide) JMDJ_s126
              refine z_aload_n X (x := A 179) (show cdA 286 163 = some (.aload_n 0, 1, 0, 0, 0) from rfl) (List.Mem.head _) ?_
              refine z_getI X 179 (show cdA 286 164 = some (.getfield 431, 3, 12, 74, 0) from rfl) (by decide) rfl rfl ?_
              have b136 : (0 : Int) ≤ iI s135 105 ∧ iI s135 105 ≤ 12 := Is135.1 105
              refine z_bipush X (show cdA 286 167 = some (.bipush 8, 2, 0, 0, 8) from rfl) ?_
              refine z_icmp_le X (t := 174) (show cdA 286 169 = some (.if_icmp .le 5, 3, 5, 0, 0) from rfl) (by decide) (rng_to _) (by decide) (fun g137 => ?_) (fun g137 => ?_)
              ·
                have hHT : HTQ (hitP U (stM s) (x : Int).toNat) (uN U) (fun j => iC s135 400 j) := fun b hb p => (show iC s135 400 (cHt (hitP U (stM s) (x : Int).toNat) b) = iC s126 400 (cHt (hitP U (stM s) (x : Int).toNat) b) by rw [hs135]; rfl).trans (hHS.2.2.1 b (by first | (clear g134 hps121 g120 hps118 g83 hps81 g46 hps44 g9 hps7; omega) | (clear hps121 g120 hps118 g83 hps81 g46 hps44 g9 hps7; omega) | omega) p (by have := cht_lt (P := (hitP U (stM s) (x : Int).toNat)) hb p; omega))
                have hMZ0 : MZJ U (hitP U (stM s) (x : Int).toNat) s135 := fun b hb _ => (show iC s135 401 b = iC s126 401 b by rw [hs135]; rfl).trans (hHS.2.2.2 b (by first | (clear g134 hps121 g120 hps118 g83 hps81 g46 hps44 g9 hps7; omega) | (clear hps121 g120 hps118 g83 hps81 g46 hps44 g9 hps7; omega) | omega))
                refine z_const X (show cdA 286 174 = some (.iconst 0, 1, 0, 0, 0) from rfl) ?_
                refine z_store X (lv' := [(6, .int (Int32.ofInt 0)), (0, .ref (A 179)), (1, .int (Int32.ofInt x)), (2, .int (Int32.ofInt y)), (3, .int (Int32.ofInt z)), (4, .int (Int32.ofInt w)), (5, .int (Int32.ofInt x127))]) (show cdA 286 175 = some (.istore 6, 2, 0, 0, 0) from rfl) (by decide) (fun _ h => h) ?_
                refine WS_lv (lv := [(0, .ref (A 179)), (1, .int (Int32.ofInt x)), (2, .int (Int32.ofInt y)), (3, .int (Int32.ofInt z)), (4, .int (Int32.ofInt w)), (6, .int (Int32.ofInt 0))]) (List.forall_mem_cons.mpr ⟨(List.Mem.tail _ (List.Mem.head _)), (List.forall_mem_cons.mpr ⟨(List.Mem.tail _ (List.Mem.tail _ (List.Mem.head _))), (List.forall_mem_cons.mpr ⟨(List.Mem.tail _ (List.Mem.tail _ (List.Mem.tail _ (List.Mem.head _)))), (List.forall_mem_cons.mpr ⟨(List.Mem.tail _ (List.Mem.tail _ (List.Mem.tail _ (List.Mem.tail _ (List.Mem.head _))))), (List.forall_mem_cons.mpr ⟨(List.Mem.tail _ (List.Mem.tail _ (List.Mem.tail _ (List.Mem.tail _ (List.Mem.tail _ (List.Mem.head _)))))), (List.forall_mem_cons.mpr ⟨(List.Mem.head _), (fun q h => absurd h List.not_mem_nil)⟩)⟩)⟩)⟩)⟩)⟩) ?_
                refine L177 ((8 - 0 : Int).toNat + 1) s135 0 Is135 Fs135 JRLx_s135 JMDJ_s135 ⟨rnl_0, hHT, hMZ0⟩ (by first | exact ⟨And.intro (hs126.1.1) (hs126.1.2), And.intro (hs126.2.1.1) (hs126.2.1.2), And.intro (hs126.2.2.1.1) (hs126.2.2.1.2), And.intro (hs126.2.2.2.1.1) (hs126.2.2.2.1.2), oq_333640b7 ws135_73 hs126.2.2.2.2.1 b129.1, oq_b44a1c7f ws135_89 hs126.2.2.2.2.2.1 b133.1, oq_1aa5be9e ws135_90 hs126.2.2.2.2.2.2.1, And.intro (hs126.2.2.2.2.2.2.2.1.1) (hs126.2.2.2.2.2.2.2.1.2), And.intro (by decide) (b136.1), g137, by first | (clear g134 hps121 g120 hps118 g83 hps81 g46 hps44 g9 hps7; omega) | (clear hps121 g120 hps118 g83 hps81 g46 hps44 g9 hps7; omega) | omega, vs135⟩ | omega) (Nat.lt_succ_self _) ?_
                intro s138 x139 Is138 Fs138 JRLx_s138 JMDJ_s138 Qs138 hs138
                have b140 : (0 : Int) ≤ iI s138 73 ∧ iI s138 73 ≤ 3 := Is138.1 73
                have b141 : (0 : Int) ≤ iI s138 105 ∧ iI s138 105 ≤ 12 := Is138.1 105
                have b142 : (0 : Int) ≤ iI s138 90 ∧ iI s138 90 ≤ 12 := Is138.1 90
                have b143 : ((-2147483648) : Int) ≤ iI s138 106 ∧ iI s138 106 ≤ 2147483647 := Is138.1 106
                have b144 : (1 : Int) ≤ iI s138 89 ∧ iI s138 89 ≤ 8 := Is138.1 89
                have hGJ : GTJ U (stM s) (x : Int).toNat (fitK9 U (stM s) (x : Int).toNat (pfM s) (fun j => iC s 229 j)) s138 := ⟨⟨⟨by first | (clear g134 hps121 g120 hps118 g83 hps81 g46 hps44 g9 hps7; omega) | (clear hps121 g120 hps118 g83 hps81 g46 hps44 g9 hps7; omega) | omega, by first | (clear g134 hps121 g120 hps118 g83 hps81 g46 hps44 g9 hps7; omega) | (clear hps121 g120 hps118 g83 hps81 g46 hps44 g9 hps7; omega) | omega⟩, Qs138.2.1⟩, fun b hb p => Qs138.1 b hb p (by have := cht_lt (P := (hitP U (stM s) (x : Int).toNat)) hb p; omega), by first | (clear g134 hps121 g120 hps118 g83 hps81 g46 hps44 g9 hps7; omega) | (clear hps121 g120 hps118 g83 hps81 g46 hps44 g9 hps7; omega) | omega, ⟨by first | (clear g134 hps121 g120 hps118 g83 hps81 g46 hps44 g9 hps7; omega) | (clear hps121 g120 hps118 g83 hps81 g46 hps44 g9 hps7; omega) | omega, jMDJ.1.2, fun b hb => hMB (x : Int).toNat b (by first | (clear g134 hps121 g120 hps118 g83 hps81 g46 hps44 g9 hps7; omega) | (clear hps121 g120 hps118 g83 hps81 g46 hps44 g9 hps7; omega) | omega) hb⟩, by rw [show pfM s138 = pfM s from funext (fun j => fm_c Fs138 (by decide)), show (fun j => iC s138 229 j) = (fun j => iC s 229 j) from funext (fun j => fm_c Fs138 (by decide))]⟩
                refine z_aload_n X (x := A 179) (show cdA 286 203 = some (.aload_n 0, 1, 0, 0, 0) from rfl) (List.Mem.head _) ?_
                refine z_const X (show cdA 286 204 = some (.iconst 0, 1, 0, 0, 0) from rfl) ?_
                refine z_load_n X (x := x) (show cdA 286 205 = some (.iload_n 1, 1, 0, 0, 0) from rfl) (List.Mem.tail _ (List.Mem.head _)) ?_
                refine z_load_n X (x := y) (show cdA 286 206 = some (.iload_n 2, 1, 0, 0, 0) from rfl) (List.Mem.tail _ (List.Mem.tail _ (List.Mem.head _))) ?_
                refine z_load_n X (x := z) (show cdA 286 207 = some (.iload_n 3, 1, 0, 0, 0) from rfl) (List.Mem.tail _ (List.Mem.tail _ (List.Mem.tail _ (List.Mem.head _)))) ?_
                refine z_const X (show cdA 286 208 = some (.iconst 0, 1, 0, 0, 0) from rfl) ?_
                have hGP : GTP U (hitP U (stM s) (x : Int).toNat) none 0 s138 := ⟨show iI s138 106 = -1 by first | (clear g134 hps121 g120 hps118 g83 hps81 g46 hps44 g9 hps7; omega) | (clear hps121 g120 hps118 g83 hps81 g46 hps44 g9 hps7; omega) | omega, fun j hj => absurd hj (by first | (clear g134 hps121 g120 hps118 g83 hps81 g46 hps44 g9 hps7; omega) | (clear hps121 g120 hps118 g83 hps81 g46 hps44 g9 hps7; omega) | omega)⟩
                refine z_callV X 179 (rm := (rkR (52 + 8))) (As := [.int (Int32.ofInt 0), .int (Int32.ofInt x), .int (Int32.ofInt y), .int (Int32.ofInt z), .int (Int32.ofInt 0)]) (st := []) (show cdA 286 209 = some (.invokevirtual 447, 3, 285, 0, 0) from rfl) rfl (by decide) rfl (by rw [E.1, E.2.1, E.2.2.1]; exact k_gor9 G 8 Is138 JRLx_s138 JMDJ_s138 hGJ Qs138.2.2 (by first | exact ⟨by decide, b141.1⟩ | omega) (by first | exact oq_a8ea036d hs138.2.2.2.2.2.2.2.2.2.1 | omega) (by first | exact hs138.2.2.2.2.2.2.2.2.2.1 | omega) (by first | (clear g134 hps121 g120 hps118 g83 hps81 g46 hps44 g9 hps7; omega) | (clear hps121 g120 hps118 g83 hps81 g46 hps44 g9 hps7; omega) | omega) (by first | exact ⟨hs138.1.1, hs138.1.2⟩ | omega) (by first | exact ⟨hs138.2.1.1, hs138.2.1.2⟩ | omega) (by first | exact ⟨hs138.2.2.1.1, hs138.2.2.1.2⟩ | omega) (by first | exact ⟨by decide, by decide⟩ | omega) (hGP)) ⟨by rw [E.2.2.2]; exact (show 72 + 1 ≤ 73 from oq_26188e76), by rw [E.2.2.2]; exact (show 8 + (8 + 11) + 3200 ≤ 3227 from oq_e592698d), by rw [E.2.2.2]; exact Nat.le_refl 0, by rw [E.2.2.2]; exact Nat.le_refl 0⟩ (Nat.le_of_ble_eq_true rfl) (fun vv s145 hq => ?_) (fun ee s145 hq => ?_)
                rotate_left
                · obtain ⟨Is145, Fs145, JRLx_s145, JMZJ_s145, hv, hps145⟩ := hq; cases hv
                obtain ⟨Is145, Fs145, JRLx_s145, JMZJ_s145, hv, hps145⟩ := hq
                cases hv
                have Gs145 := fm_ts Fs138 Fs145 (by decide) (by decide)
                have JRLx_s145 : RLx s145 := RLx_fm Fs145 (by decide) JRLx_s138
                have JMDJ_s145 : MDJ U s145 := MDJ_fm Fs145 (by decide) JMDJ_s138
                have JGTJ_s145 : GTJ U (stM s) (x : Int).toNat (fitK9 U (stM s) (x : Int).toNat (pfM s) (fun j => iC s 229 j)) s145 := GTJ_fm Fs145 (by decide) hGJ
                have ws145_73 : iI s145 73 = iI s138 73 := fm_i Fs145 (by decide)
                have ws145_105 : iI s145 105 = iI s138 105 := fm_i Fs145 (by decide)
                have ws145_90 : iI s145 90 = iI s138 90 := fm_i Fs145 (by decide)
                have b147 : ((-2147483648) : Int) ≤ iI s145 106 ∧ iI s145 106 ≤ 2147483647 := Is145.1 106
                have ws145_89 : iI s145 89 = iI s138 89 := fm_i Fs145 (by decide)
                show WS k 212 [(0, .ref (A 179)), (1, .int (Int32.ofInt x)), (2, .int (Int32.ofInt y)), (3, .int (Int32.ofInt z)), (4, .int (Int32.ofInt w)), (6, .int (Int32.ofInt x139))] [] (Wd A dT s145) 0 0
                have hBS := slm_of hps145
                refine z_aload_n X (x := A 179) (show cdA 286 212 = some (.aload_n 0, 1, 0, 0, 0) from rfl) (List.Mem.head _) ?_
                refine z_getI X 179 (show cdA 286 213 = some (.getfield 434, 3, 12, 75, 0) from rfl) (by decide) rfl rfl ?_
                have b148 : ((-2147483648) : Int) ≤ iI s145 106 ∧ iI s145 106 ≤ 2147483647 := Is145.1 106
                refine z_const X (show cdA 286 216 = some (.iconst (-1), 1, 0, 0, 0) from rfl) ?_
                refine z_icmp_ne X (t := 224) (show cdA 286 217 = some (.if_icmp .ne 7, 3, 1, 0, 0) from rfl) (by decide) (rng_to _) (by decide) (fun g149 => ?_) (fun g149 => ?_)
                ·
                  refine z_load X (x := w) (show cdA 286 224 = some (.iload 4, 2, 0, 0, 0) from rfl) (List.Mem.tail _ (List.Mem.tail _ (List.Mem.tail _ (List.Mem.tail _ (List.Mem.head _))))) ?_
                  refine z_const X (show cdA 286 226 = some (.iconst (-1), 1, 0, 0, 0) from rfl) ?_
                  refine z_icmp_ne X (t := 237) (show cdA 286 227 = some (.if_icmp .ne 10, 3, 1, 0, 0) from rfl) (by decide) ⟨by first | exact p3.1 | omega, by first | exact p3.2 | omega⟩ (by decide) (fun g150 => ?_) (fun g150 => ?_)
                  ·
                    refine z_load X (x := w) (show cdA 286 237 = some (.iload 4, 2, 0, 0, 0) from rfl) (List.Mem.tail _ (List.Mem.tail _ (List.Mem.tail _ (List.Mem.tail _ (List.Mem.head _))))) ?_
                    refine z_aload_n X (x := A 179) (show cdA 286 239 = some (.aload_n 0, 1, 0, 0, 0) from rfl) (List.Mem.head _) ?_
                    refine z_getI X 179 (show cdA 286 240 = some (.getfield 233, 3, 12, 22, 0) from rfl) (by decide) rfl rfl ?_
                    have b151 : (0 : Int) ≤ iI s145 90 ∧ iI s145 90 ≤ 12 := Is145.1 90
                    refine z_icmp_ge X (t := 256) (show cdA 286 243 = some (.if_icmp .ge 13, 3, 3, 0, 0) from rfl) (by decide) ⟨by first | exact p3.1 | omega, by first | exact p3.2 | omega⟩ (rng_to _) (fun g152 => ?_) (fun g152 => ?_)
                    ·
                      refine z_const X (show cdA 286 256 = some (.iconst 0, 1, 0, 0, 0) from rfl) ?_
                      exact w_iret X.1 q hRt rfl (ax_d X (show cdA 286 257 = some (.ireturn, 1, 0, 0, 0) from rfl)) (Nat.zero_le _) (Nat.zero_le _) ⟨_, rfl, Is145, Gs145, JRLx_s145, 0, rfl, (by decide), Or.inl ⟨by first | exact ⟨hs138.1.1, hs138.1.2⟩ | omega, by first | exact ⟨hs138.2.1.1, hs138.2.1.2⟩ | omega, by first | exact ⟨hs138.2.2.1.1, hs138.2.2.1.2⟩ | omega, by first | exact ⟨hs138.2.2.2.1.1, hs138.2.2.2.1.2⟩ | omega, by first | exact oq_333640b7 ws145_73 hs138.2.2.2.2.1 b140.1 | omega, mnm_s hBS (by first | (clear g150 g149 g134 hps121 g120 hps118 g83 hps81 g46 hps44 g9 hps7; omega) | (clear g149 g134 hps121 g120 hps118 g83 hps81 g46 hps44 g9 hps7; omega) | omega) (by first | (clear g150 g149 g134 hps121 g120 hps118 g83 hps81 g46 hps44 g9 hps7; omega) | (clear g149 g134 hps121 g120 hps118 g83 hps81 g46 hps44 g9 hps7; omega) | omega) (by first | (clear g150 g149 g134 hps121 g120 hps118 g83 hps81 g46 hps44 g9 hps7; omega) | (clear g149 g134 hps121 g120 hps118 g83 hps81 g46 hps44 g9 hps7; omega) | omega) (Or.inr ⟨by first | (clear g150 g149 g134 hps121 g120 hps118 g83 hps81 g46 hps44 g9 hps7; omega) | (clear g149 g134 hps121 g120 hps118 g83 hps81 g46 hps44 g9 hps7; omega) | omega, rfl⟩)⟩⟩
                    ·
                      refine z_aload_n X (x := A 179) (show cdA 286 246 = some (.aload_n 0, 1, 0, 0, 0) from rfl) (List.Mem.head _) ?_
                      refine s_getR X 179 (show cdA 286 247 = some (.getfield 148, 3, 12, 70, 0) from rfl) (by decide) rfl rfl ?_
                      refine z_load X (x := w) (show cdA 286 250 = some (.iload 4, 2, 0, 0, 0) from rfl) (List.Mem.tail _ (List.Mem.tail _ (List.Mem.tail _ (List.Mem.tail _ (List.Mem.head _))))) ?_
                      refine z_ald X 457 (show cdA 286 252 = some (.iaload, 1, 0, 0, 0) from rfl) (by decide) rfl (by first | exact oq_33feeab9 g150 hs138.2.2.2.1.1 g134 | omega) (show w < 12 by first | exact oq_0ddfcfee hs138.2.2.2.1.2 | omega) (by decide) ?_
                      have b153 : (0 : Int) ≤ iC s145 402 (w).toNat ∧ iC s145 402 (w).toNat ≤ 3 := Is145.2 402 _ (show (w).toNat < 12 by first | exact oq_9c5fa447 hs138.2.2.2.1.2 | omega)
                      refine z_goto X (t := 257) (show cdA 286 253 = some (.goto 4, 3, 0, 0, 0) from rfl) (by decide) ?_
                      exact w_iret X.1 q hRt rfl (ax_d X (show cdA 286 257 = some (.ireturn, 1, 0, 0, 0) from rfl)) (Nat.zero_le _) (Nat.zero_le _) ⟨_, rfl, Is145, Gs145, JRLx_s145, (iC s145 402 (w).toNat), rfl, (rng_to _), Or.inl ⟨by first | exact ⟨hs138.1.1, hs138.1.2⟩ | omega, by first | exact ⟨hs138.2.1.1, hs138.2.1.2⟩ | omega, by first | exact ⟨hs138.2.2.1.1, hs138.2.2.1.2⟩ | omega, by first | exact ⟨hs138.2.2.2.1.1, hs138.2.2.2.1.2⟩ | omega, by first | exact oq_333640b7 ws145_73 hs138.2.2.2.2.1 b140.1 | omega, mnm_s hBS (by first | (clear g150 g149 g134 hps121 g120 hps118 g83 hps81 g46 hps44 g9 hps7; omega) | (clear g149 g134 hps121 g120 hps118 g83 hps81 g46 hps44 g9 hps7; omega) | omega) (by first | (clear g150 g149 g134 hps121 g120 hps118 g83 hps81 g46 hps44 g9 hps7; omega) | (clear g149 g134 hps121 g120 hps118 g83 hps81 g46 hps44 g9 hps7; omega) | omega) (by first | (clear g150 g149 g134 hps121 g120 hps118 g83 hps81 g46 hps44 g9 hps7; omega) | (clear g149 g134 hps121 g120 hps118 g83 hps81 g46 hps44 g9 hps7; omega) | omega) (Or.inl ⟨by first | (clear g150 g149 g134 hps121 g120 hps118 g83 hps81 g46 hps44 g9 hps7; omega) | (clear g149 g134 hps121 g120 hps118 g83 hps81 g46 hps44 g9 hps7; omega) | omega, rfl⟩)⟩⟩
                  ·
                    refine z_aload_n X (x := A 179) (show cdA 286 230 = some (.aload_n 0, 1, 0, 0, 0) from rfl) (List.Mem.head _) ?_
                    refine z_getI X 179 (show cdA 286 231 = some (.getfield 434, 3, 12, 75, 0) from rfl) (by decide) rfl rfl ?_
                    have b154 : ((-2147483648) : Int) ≤ iI s145 106 ∧ iI s145 106 ≤ 2147483647 := Is145.1 106
                    refine z_goto X (t := 257) (show cdA 286 234 = some (.goto 23, 3, 0, 0, 0) from rfl) (by decide) ?_
                    exact w_iret X.1 q hRt rfl (ax_d X (show cdA 286 257 = some (.ireturn, 1, 0, 0, 0) from rfl)) (Nat.zero_le _) (Nat.zero_le _) ⟨_, rfl, Is145, Gs145, JRLx_s145, (iI s145 106), rfl, (rng_to _), Or.inl ⟨by first | exact ⟨hs138.1.1, hs138.1.2⟩ | omega, by first | exact ⟨hs138.2.1.1, hs138.2.1.2⟩ | omega, by first | exact ⟨hs138.2.2.1.1, hs138.2.2.1.2⟩ | omega, by first | exact ⟨hs138.2.2.2.1.1, hs138.2.2.2.1.2⟩ | omega, by first | exact oq_333640b7 ws145_73 hs138.2.2.2.2.1 b140.1 | omega, mnm_m hBS (by first | (clear g149 g134 hps121 g120 hps118 g83 hps81 g46 hps44 g9 hps7; omega) | (clear g134 hps121 g120 hps118 g83 hps81 g46 hps44 g9 hps7; omega) | omega) (by first | (clear g149 g134 hps121 g120 hps118 g83 hps81 g46 hps44 g9 hps7; omega) | (clear g134 hps121 g120 hps118 g83 hps81 g46 hps44 g9 hps7; omega) | omega) ⟨by first | (clear g149 g134 hps121 g120 hps118 g83 hps81 g46 hps44 g9 hps7; omega) | (clear g134 hps121 g120 hps118 g83 hps81 g46 hps44 g9 hps7; omega) | omega, rfl⟩⟩⟩
                ·
                  refine z_const X (show cdA 286 220 = some (.iconst (-1), 1, 0, 0, 0) from rfl) ?_
                  refine z_goto X (t := 257) (show cdA 286 221 = some (.goto 36, 3, 0, 0, 0) from rfl) (by decide) ?_
                  exact w_iret X.1 q hRt rfl (ax_d X (show cdA 286 257 = some (.ireturn, 1, 0, 0, 0) from rfl)) (Nat.zero_le _) (Nat.zero_le _) ⟨_, rfl, Is145, Gs145, JRLx_s145, (-1), rfl, (by decide), Or.inl ⟨by first | exact ⟨hs138.1.1, hs138.1.2⟩ | omega, by first | exact ⟨hs138.2.1.1, hs138.2.1.2⟩ | omega, by first | exact ⟨hs138.2.2.1.1, hs138.2.2.1.2⟩ | omega, by first | exact ⟨hs138.2.2.2.1.1, hs138.2.2.2.1.2⟩ | omega, by first | exact oq_333640b7 ws145_73 hs138.2.2.2.2.1 b140.1 | omega, Or.inr (Or.inl ⟨by first | (clear g134 hps121 g120 hps118 g83 hps81 g46 hps44 g9 hps7; omega) | (clear hps121 g120 hps118 g83 hps81 g46 hps44 g9 hps7; omega) | omega, Or.inr (bso9_0 hBS (by first | (clear g134 hps121 g120 hps118 g83 hps81 g46 hps44 g9 hps7; omega) | (clear hps121 g120 hps118 g83 hps81 g46 hps44 g9 hps7; omega) | omega)), rfl⟩)⟩⟩
              ·
                refine z_const X (show cdA 286 172 = some (.iconst (-1), 1, 0, 0, 0) from rfl) ?_
                exact w_iret X.1 q hRt rfl (ax_d X (show cdA 286 173 = some (.ireturn, 1, 0, 0, 0) from rfl)) (Nat.zero_le _) (Nat.zero_le _) ⟨_, rfl, Is135, Fs135, JRLx_s135, (-1), rfl, (by decide), Or.inl ⟨by first | exact ⟨hs126.1.1, hs126.1.2⟩ | omega, by first | exact ⟨hs126.2.1.1, hs126.2.1.2⟩ | omega, by first | exact ⟨hs126.2.2.1.1, hs126.2.2.1.2⟩ | omega, by first | exact ⟨hs126.2.2.2.1.1, hs126.2.2.2.1.2⟩ | omega, by first | exact oq_333640b7 ws135_73 hs126.2.2.2.2.1 b129.1 | omega, Or.inr (Or.inl ⟨by first | (clear g134 hps121 g120 hps118 g83 hps81 g46 hps44 g9 hps7; omega) | (clear hps121 g120 hps118 g83 hps81 g46 hps44 g9 hps7; omega) | omega, Or.inl (by first | (clear g134 hps121 g120 hps118 g83 hps81 g46 hps44 g9 hps7; omega) | (clear hps121 g120 hps118 g83 hps81 g46 hps44 g9 hps7; omega) | omega), rfl⟩)⟩⟩
            ·
              refine z_load X (x := x127) (show cdA 286 155 = some (.iload 5, 2, 0, 0, 0) from rfl) (List.Mem.tail _ (List.Mem.tail _ (List.Mem.tail _ (List.Mem.tail _ (List.Mem.tail _ (List.Mem.head _)))))) ?_
              exact w_iret X.1 q hRt rfl (ax_d X (show cdA 286 157 = some (.ireturn, 1, 0, 0, 0) from rfl)) (Nat.zero_le _) (Nat.zero_le _) ⟨_, rfl, Is126, Fs126, JRLx_s126, x127, rfl, ⟨by first | exact hs126.2.2.2.2.2.2.2.2.1.1 | omega, by first | exact hs126.2.2.2.2.2.2.2.2.1.2 | omega⟩, Or.inl ⟨by first | exact ⟨hs126.1.1, hs126.1.2⟩ | omega, by first | exact ⟨hs126.2.1.1, hs126.2.1.2⟩ | omega, by first | exact ⟨hs126.2.2.1.1, hs126.2.2.1.2⟩ | omega, by first | exact ⟨hs126.2.2.2.1.1, hs126.2.2.2.1.2⟩ | omega, by first | exact hs126.2.2.2.2.1 | omega, Or.inl ⟨by first | (clear hps121 g120 hps118 g83 hps81 g46 hps44 g9 hps7; omega) | (clear g120 hps118 g83 hps81 g46 hps44 g9 hps7; omega) | omega, ⟨by first | exact hs126.2.2.2.2.2.2.2.2.1.1 | omega, by first | exact hs126.2.2.2.2.2.2.2.2.1.2 | omega⟩, by have zz := hHS.2.1; rw [Int.toNat_natCast] at zz; exact zz⟩⟩⟩
          ·
            refine z_const X (show cdA 286 60 = some (.iconst 0, 1, 0, 0, 0) from rfl) ?_
            exact w_iret X.1 q hRt rfl (ax_d X (show cdA 286 61 = some (.ireturn, 1, 0, 0, 0) from rfl)) (Nat.zero_le _) (Nat.zero_le _) ⟨_, rfl, Is121, Gs121, JRLx_s121, 0, rfl, (by decide), Or.inr ⟨by first | exact oq_d324d61e g124 hps121 vs6 | omega, by first | (clear g124 hps121 g120 hps118 g83 hps81 g46 hps44 g9 hps7; omega) | (clear hps121 g120 hps118 g83 hps81 g46 hps44 g9 hps7; omega) | omega⟩⟩
        ·
          refine z_const X (show cdA 286 48 = some (.iconst 1, 1, 0, 0, 0) from rfl) ?_
          refine z_goto X (t := 53) (show cdA 286 49 = some (.goto 4, 3, 0, 0, 0) from rfl) (by decide) ?_
          refine z_const X (show cdA 286 53 = some (.iconst 1, 1, 0, 0, 0) from rfl) ?_
          refine z_callV X 179 (rm := rmN 187) (As := [.int (Int32.ofInt 1), .int (Int32.ofInt 1)]) (st := []) (show cdA 286 54 = some (.invokevirtual 229, 3, 187, 0, 0) from rfl) rfl (by decide) rfl (by rw [E.1, E.2.1, E.2.2.1]; exact k_bad2 G Is6 (by first | exact Or.inr (by decide) | omega) (by first | exact ⟨by decide, by decide⟩ | omega)) ⟨by rw [E.2.2.2]; exact (show (rmN 187).frames + 1 ≤ (rmN 286).frames by decide), by rw [E.2.2.2]; exact (show 8 + (mNL (miB 187) + 11) + (rmN 187).locals ≤ (rmN 286).locals by decide), by rw [E.2.2.2]; exact (show 0 + (rmN 187).cells ≤ (rmN 286).cells by decide), by rw [E.2.2.2]; exact (show 0 + (rmN 187).slots ≤ (rmN 286).slots by decide)⟩ (Nat.le_of_ble_eq_true rfl) (fun vv s155 hq => ?_) (fun ee s155 hq => ?_)
          rotate_left
          · obtain ⟨Is155, Fs155, e156, hv, hrs155, hps155⟩ := hq; cases hv
          obtain ⟨Is155, Fs155, e156, hv, hrs155, hps155⟩ := hq
          cases hv
          have Gs155 := fm_ts Fs6 Fs155 (by decide) (by decide)
          have JRLx_s155 : RLx s155 := RLx_fm Fs155 (by decide) JRLx_s6
          have JMDJ_s155 : MDJ U s155 := MDJ_fm Fs155 (by decide) JMDJ_s6
          have b157 : (0 : Int) ≤ iI s155 73 ∧ iI s155 73 ≤ 3 := Is155.1 73
          have ws155_105 : iI s155 105 = iI s6 105 := fm_i Fs155 (by decide)
          have ws155_90 : iI s155 90 = iI s6 90 := fm_i Fs155 (by decide)
          have ws155_106 : iI s155 106 = iI s6 106 := fm_i Fs155 (by decide)
          have ws155_89 : iI s155 89 = iI s6 89 := fm_i Fs155 (by decide)
          show WS k 57 [(0, .ref (A 179)), (1, .int (Int32.ofInt x)), (2, .int (Int32.ofInt y)), (3, .int (Int32.ofInt z)), (4, .int (Int32.ofInt w))] [.int (Int32.ofInt e156)] (Wd A dT s155) 0 0
          refine z_if_eq X (t := 62) (show cdA 286 57 = some (.ifCond .eq 5, 3, 0, 0, 0) from rfl) (by decide) hrs155 (fun g158 => ?_) (fun g158 => ?_)
          ·
            have hst9 := jMDJ.1
            refine z_const X (show cdA 286 62 = some (.iconst 0, 1, 0, 0, 0) from rfl) ?_
            refine z_store X (lv' := [(5, .int (Int32.ofInt 0)), (0, .ref (A 179)), (1, .int (Int32.ofInt x)), (2, .int (Int32.ofInt y)), (3, .int (Int32.ofInt z)), (4, .int (Int32.ofInt w))]) (show cdA 286 63 = some (.istore 5, 2, 0, 0, 0) from rfl) (by decide) (fun _ h => h) ?_
            refine z_aload_n X (x := A 179) (show cdA 286 65 = some (.aload_n 0, 1, 0, 0, 0) from rfl) (List.Mem.tail _ (List.Mem.head _)) ?_
            refine z_const X (show cdA 286 66 = some (.iconst 0, 1, 0, 0, 0) from rfl) ?_
            refine s_putI X 179 (show cdA 286 67 = some (.putfield 431, 3, 12, 74, 0) from rfl) (by decide) rfl rfl (by decide) rfl rfl rfl ?_
            obtain ⟨s159, hs159⟩ : ∃ x0, x0 = uI s155 105 (Int32.ofInt 0) := ⟨_, rfl⟩
            rw [← hs159]
            have Is159 : Bd s159 := by rw [hs159]; exact bd_I Is155 (show (0 : Int) ≤ 0 ∧ 0 ≤ 12 by first | exact ⟨by decide, by decide⟩ | omega) (by decide)
            have Fs159 := fm_I (x := Int32.ofInt 0) Gs155 (show 105 ∈ _ by decide)
            rw [← hs159] at Fs159
            have vs159 : iI s159 105 = 0 := by rw [hs159]; exact iI_u (by decide)
            have ws159_73 : iI s159 73 = iI s155 73 := by rw [hs159]; rfl
            have ws159_90 : iI s159 90 = iI s155 90 := by rw [hs159]; rfl
            have ws159_106 : iI s159 106 = iI s155 106 := by rw [hs159]; rfl
            have ws159_89 : iI s159 89 = iI s155 89 := by rw [hs159]; rfl
            have fs159 : Fm [105] [] s155 s159 := by rw [hs159]; exact fm_I (fm_rf _ _ _) (show 105 ∈ _ by decide)
            have JRLx_s159 : RLx s159 := RLx_fm fs159 (by decide) JRLx_s155
            have JMDJ_s159 : MDJ U s159 := MDJ_fm fs159 (by decide) JMDJ_s155
            refine z_const X (show cdA 286 70 = some (.iconst 0, 1, 0, 0, 0) from rfl) ?_
            refine z_store X (lv' := [(6, .int (Int32.ofInt 0)), (5, .int (Int32.ofInt 0)), (0, .ref (A 179)), (1, .int (Int32.ofInt x)), (2, .int (Int32.ofInt y)), (3, .int (Int32.ofInt z)), (4, .int (Int32.ofInt w))]) (show cdA 286 71 = some (.istore 6, 2, 0, 0, 0) from rfl) (by decide) (fun _ h => h) ?_
            refine WS_lv (lv := [(0, .ref (A 179)), (1, .int (Int32.ofInt x)), (2, .int (Int32.ofInt y)), (3, .int (Int32.ofInt z)), (4, .int (Int32.ofInt w)), (5, .int (Int32.ofInt 0)), (6, .int (Int32.ofInt 0))]) (List.forall_mem_cons.mpr ⟨(List.Mem.tail _ (List.Mem.tail _ (List.Mem.head _))), (List.forall_mem_cons.mpr ⟨(List.Mem.tail _ (List.Mem.tail _ (List.Mem.tail _ (List.Mem.head _)))), (List.forall_mem_cons.mpr ⟨(List.Mem.tail _ (List.Mem.tail _ (List.Mem.tail _ (List.Mem.tail _ (List.Mem.head _))))), (List.forall_mem_cons.mpr ⟨(List.Mem.tail _ (List.Mem.tail _ (List.Mem.tail _ (List.Mem.tail _ (List.Mem.tail _ (List.Mem.head _)))))), (List.forall_mem_cons.mpr ⟨(List.Mem.tail _ (List.Mem.tail _ (List.Mem.tail _ (List.Mem.tail _ (List.Mem.tail _ (List.Mem.tail _ (List.Mem.head _))))))), (List.forall_mem_cons.mpr ⟨(List.Mem.tail _ (List.Mem.head _)), (List.forall_mem_cons.mpr ⟨(List.Mem.head _), (fun q h => absurd h List.not_mem_nil)⟩)⟩)⟩)⟩)⟩)⟩)⟩) ?_
            refine L73 ((12 - 0 : Int).toNat + 1) s159 0 0 Is159 Fs159 JRLx_s159 JMDJ_s159 (hsq_0 (by first | (clear hps155 hps118 g83 hps81 g46 hps44 g9 hps7; omega) | (clear hps118 g83 hps81 g46 hps44 g9 hps7; omega) | omega)) (by first | exact ⟨oq_e5a089c2 g9 hps7, oq_5933ef41 g46 hps44, oq_5933ef41 g83 hps81, oq_d3994d9a g158 hps155 vs6, oq_8c407924 ws159_73 g158 b157.1 hps155 vs6, oq_29301542 ws159_89 ws155_89 ws6_89 p4 b5.1, oq_d0d2714e ws159_90 ws6_90 ws155_90, oq_9014f91b g158 hps155 vs6, And.intro (by decide) (by decide), And.intro (by decide) (b3.1), oq_0b35aa92 vs159, oq_1af0b4f8 vs159⟩ | omega) (Nat.lt_succ_self _) ?_
            intro s160 x161 x162 Is160 Fs160 JRLx_s160 JMDJ_s160 Qs160 hs160
            have b163 : (0 : Int) ≤ iI s160 73 ∧ iI s160 73 ≤ 3 := Is160.1 73
            have b164 : (0 : Int) ≤ iI s160 105 ∧ iI s160 105 ≤ 12 := Is160.1 105
            have b165 : (0 : Int) ≤ iI s160 90 ∧ iI s160 90 ≤ 12 := Is160.1 90
            have b166 : ((-2147483648) : Int) ≤ iI s160 106 ∧ iI s160 106 ≤ 2147483647 := Is160.1 106
            have b167 : (1 : Int) ≤ iI s160 89 ∧ iI s160 89 ≤ 8 := Is160.1 89
            have hHS : HSQ (hitP U (stM s) (x : Int).toNat) (uN U : Int) x161 s160 := by have zz := Qs160; rw [show x162 = (uN U : Int) by first | (clear hps155 hps118 g83 hps81 g46 hps44 g9 hps7; omega) | (clear hps118 g83 hps81 g46 hps44 g9 hps7; omega) | omega] at zz; exact zz
            have hH1 := hHS.1
            rw [Int.toNat_natCast] at hH1
            refine z_load X (x := w) (show cdA 286 148 = some (.iload 4, 2, 0, 0, 0) from rfl) (List.Mem.tail _ (List.Mem.tail _ (List.Mem.tail _ (List.Mem.tail _ (List.Mem.head _))))) ?_
            refine z_bipush X (show cdA 286 150 = some (.bipush (-2), 2, 0, 0, (-2)) from rfl) ?_
            refine z_icmp_ne X (t := 158) (show cdA 286 152 = some (.if_icmp .ne 6, 3, 1, 0, 0) from rfl) (by decide) ⟨by first | exact p3.1 | omega, by first | exact p3.2 | omega⟩ (by decide) (fun g168 => ?_) (fun g168 => ?_)
            ·
              refine z_aload_n X (x := A 179) (show cdA 286 158 = some (.aload_n 0, 1, 0, 0, 0) from rfl) (List.Mem.head _) ?_
              refine z_const X (show cdA 286 159 = some (.iconst (-1), 1, 0, 0, 0) from rfl) ?_
              refine s_putI X 179 (show cdA 286 160 = some (.putfield 434, 3, 12, 75, 0) from rfl) (by decide) rfl rfl (by decide) rfl rfl rfl ?_
              obtain ⟨s169, hs169⟩ : ∃ x0, x0 = uI s160 106 (Int32.ofInt (-1)) := ⟨_, rfl⟩
              rw [← hs169]
              have Is169 : Bd s169 := by rw [hs169]; exact bd_I Is160 (show ((-2147483648) : Int) ≤ (-1) ∧ (-1) ≤ 2147483647 by first | exact ⟨by decide, by decide⟩ | omega) (by decide)
              have Fs169 := fm_I (x := Int32.ofInt (-1)) Fs160 (show 106 ∈ _ by decide)
              rw [← hs169] at Fs169
              have vs169 : iI s169 106 = (-1) := by rw [hs169]; exact iI_u (by decide)
              have ws169_73 : iI s169 73 = iI s160 73 := by rw [hs169]; rfl
              have ws169_105 : iI s169 105 = iI s160 105 := by rw [hs169]; rfl
              have ws169_90 : iI s169 90 = iI s160 90 := by rw [hs169]; rfl
              have ws169_89 : iI s169 89 = iI s160 89 := by rw [hs169]; rfl
              have fs169 : Fm [106] [] s160 s169 := by rw [hs169]; exact fm_I (fm_rf _ _ _) (show 106 ∈ _ by decide)
              have JRLx_s169 : RLx s169 := RLx_fm fs169 (by decide) JRLx_s160
              have JMDJ_s169 : MDJ U s169 := MDJ_fm fs169 (by decide) JMDJ_s160
              refine z_aload_n X (x := A 179) (show cdA 286 163 = some (.aload_n 0, 1, 0, 0, 0) from rfl) (List.Mem.head _) ?_
              refine z_getI X 179 (show cdA 286 164 = some (.getfield 431, 3, 12, 74, 0) from rfl) (by decide) rfl rfl ?_
              have b170 : (0 : Int) ≤ iI s169 105 ∧ iI s169 105 ≤ 12 := Is169.1 105
              refine z_bipush X (show cdA 286 167 = some (.bipush 8, 2, 0, 0, 8) from rfl) ?_
              refine z_icmp_le X (t := 174) (show cdA 286 169 = some (.if_icmp .le 5, 3, 5, 0, 0) from rfl) (by decide) (rng_to _) (by decide) (fun g171 => ?_) (fun g171 => ?_)
              ·
                have hHT : HTQ (hitP U (stM s) (x : Int).toNat) (uN U) (fun j => iC s169 400 j) := fun b hb p => (show iC s169 400 (cHt (hitP U (stM s) (x : Int).toNat) b) = iC s160 400 (cHt (hitP U (stM s) (x : Int).toNat) b) by rw [hs169]; rfl).trans (hHS.2.2.1 b (by first | (clear g168 hps155 hps118 g83 hps81 g46 hps44 g9 hps7; omega) | (clear hps155 hps118 g83 hps81 g46 hps44 g9 hps7; omega) | omega) p (by have := cht_lt (P := (hitP U (stM s) (x : Int).toNat)) hb p; omega))
                have hMZ0 : MZJ U (hitP U (stM s) (x : Int).toNat) s169 := fun b hb _ => (show iC s169 401 b = iC s160 401 b by rw [hs169]; rfl).trans (hHS.2.2.2 b (by first | (clear g168 hps155 hps118 g83 hps81 g46 hps44 g9 hps7; omega) | (clear hps155 hps118 g83 hps81 g46 hps44 g9 hps7; omega) | omega))
                refine z_const X (show cdA 286 174 = some (.iconst 0, 1, 0, 0, 0) from rfl) ?_
                refine z_store X (lv' := [(6, .int (Int32.ofInt 0)), (0, .ref (A 179)), (1, .int (Int32.ofInt x)), (2, .int (Int32.ofInt y)), (3, .int (Int32.ofInt z)), (4, .int (Int32.ofInt w)), (5, .int (Int32.ofInt x161))]) (show cdA 286 175 = some (.istore 6, 2, 0, 0, 0) from rfl) (by decide) (fun _ h => h) ?_
                refine WS_lv (lv := [(0, .ref (A 179)), (1, .int (Int32.ofInt x)), (2, .int (Int32.ofInt y)), (3, .int (Int32.ofInt z)), (4, .int (Int32.ofInt w)), (6, .int (Int32.ofInt 0))]) (List.forall_mem_cons.mpr ⟨(List.Mem.tail _ (List.Mem.head _)), (List.forall_mem_cons.mpr ⟨(List.Mem.tail _ (List.Mem.tail _ (List.Mem.head _))), (List.forall_mem_cons.mpr ⟨(List.Mem.tail _ (List.Mem.tail _ (List.Mem.tail _ (List.Mem.head _)))), (List.forall_mem_cons.mpr ⟨(List.Mem.tail _ (List.Mem.tail _ (List.Mem.tail _ (List.Mem.tail _ (List.Mem.head _))))), (List.forall_mem_cons.mpr ⟨(List.Mem.tail _ (List.Mem.tail _ (List.Mem.tail _ (List.Mem.tail _ (List.Mem.tail _ (List.Mem.head _)))))), (List.forall_mem_cons.mpr ⟨(List.Mem.head _), (fun q h => absurd h List.not_mem_nil)⟩)⟩)⟩)⟩)⟩)⟩) ?_
                refine L177 ((8 - 0 : Int).toNat + 1) s169 0 Is169 Fs169 JRLx_s169 JMDJ_s169 ⟨rnl_0, hHT, hMZ0⟩ (by first | exact ⟨And.intro (hs160.1.1) (hs160.1.2), And.intro (hs160.2.1.1) (hs160.2.1.2), And.intro (hs160.2.2.1.1) (hs160.2.2.1.2), And.intro (hs160.2.2.2.1.1) (hs160.2.2.2.1.2), oq_333640b7 ws169_73 hs160.2.2.2.2.1 b163.1, oq_b44a1c7f ws169_89 hs160.2.2.2.2.2.1 b167.1, oq_1aa5be9e ws169_90 hs160.2.2.2.2.2.2.1, And.intro (hs160.2.2.2.2.2.2.2.1.1) (hs160.2.2.2.2.2.2.2.1.2), And.intro (by decide) (b170.1), g171, oq_5d5b93d4 hs160.2.2.2.1.2 hs160.2.2.2.1.1 g120 hps118, vs169⟩ | omega) (Nat.lt_succ_self _) ?_
                intro s172 x173 Is172 Fs172 JRLx_s172 JMDJ_s172 Qs172 hs172
                have b174 : (0 : Int) ≤ iI s172 73 ∧ iI s172 73 ≤ 3 := Is172.1 73
                have b175 : (0 : Int) ≤ iI s172 105 ∧ iI s172 105 ≤ 12 := Is172.1 105
                have b176 : (0 : Int) ≤ iI s172 90 ∧ iI s172 90 ≤ 12 := Is172.1 90
                have b177 : ((-2147483648) : Int) ≤ iI s172 106 ∧ iI s172 106 ≤ 2147483647 := Is172.1 106
                have b178 : (1 : Int) ≤ iI s172 89 ∧ iI s172 89 ≤ 8 := Is172.1 89
                have hGJ : GTJ U (stM s) (x : Int).toNat (fitK9 U (stM s) (x : Int).toNat (pfM s) (fun j => iC s 229 j)) s172 := ⟨⟨⟨by first | (clear g168 hps155 hps118 g83 hps81 g46 hps44 g9 hps7; omega) | (clear hps155 hps118 g83 hps81 g46 hps44 g9 hps7; omega) | omega, by first | (clear g168 hps155 hps118 g83 hps81 g46 hps44 g9 hps7; omega) | (clear hps155 hps118 g83 hps81 g46 hps44 g9 hps7; omega) | omega⟩, Qs172.2.1⟩, fun b hb p => Qs172.1 b hb p (by have := cht_lt (P := (hitP U (stM s) (x : Int).toNat)) hb p; omega), by first | (clear g168 hps155 hps118 g83 hps81 g46 hps44 g9 hps7; omega) | (clear hps155 hps118 g83 hps81 g46 hps44 g9 hps7; omega) | omega, ⟨by first | (clear g168 hps155 hps118 g83 hps81 g46 hps44 g9 hps7; omega) | (clear hps155 hps118 g83 hps81 g46 hps44 g9 hps7; omega) | omega, jMDJ.1.2, fun b hb => hMB (x : Int).toNat b (by first | (clear g168 hps155 hps118 g83 hps81 g46 hps44 g9 hps7; omega) | (clear hps155 hps118 g83 hps81 g46 hps44 g9 hps7; omega) | omega) hb⟩, by rw [show pfM s172 = pfM s from funext (fun j => fm_c Fs172 (by decide)), show (fun j => iC s172 229 j) = (fun j => iC s 229 j) from funext (fun j => fm_c Fs172 (by decide))]⟩
                refine z_aload_n X (x := A 179) (show cdA 286 203 = some (.aload_n 0, 1, 0, 0, 0) from rfl) (List.Mem.head _) ?_
                refine z_const X (show cdA 286 204 = some (.iconst 0, 1, 0, 0, 0) from rfl) ?_
                refine z_load_n X (x := x) (show cdA 286 205 = some (.iload_n 1, 1, 0, 0, 0) from rfl) (List.Mem.tail _ (List.Mem.head _)) ?_
                refine z_load_n X (x := y) (show cdA 286 206 = some (.iload_n 2, 1, 0, 0, 0) from rfl) (List.Mem.tail _ (List.Mem.tail _ (List.Mem.head _))) ?_
                refine z_load_n X (x := z) (show cdA 286 207 = some (.iload_n 3, 1, 0, 0, 0) from rfl) (List.Mem.tail _ (List.Mem.tail _ (List.Mem.tail _ (List.Mem.head _)))) ?_
                refine z_const X (show cdA 286 208 = some (.iconst 0, 1, 0, 0, 0) from rfl) ?_
                have hGP : GTP U (hitP U (stM s) (x : Int).toNat) none 0 s172 := ⟨show iI s172 106 = -1 by first | (clear g168 hps155 hps118 g83 hps81 g46 hps44 g9 hps7; omega) | (clear hps155 hps118 g83 hps81 g46 hps44 g9 hps7; omega) | omega, fun j hj => absurd hj (by first | (clear g168 hps155 hps118 g83 hps81 g46 hps44 g9 hps7; omega) | (clear hps155 hps118 g83 hps81 g46 hps44 g9 hps7; omega) | omega)⟩
                refine z_callV X 179 (rm := (rkR (52 + 8))) (As := [.int (Int32.ofInt 0), .int (Int32.ofInt x), .int (Int32.ofInt y), .int (Int32.ofInt z), .int (Int32.ofInt 0)]) (st := []) (show cdA 286 209 = some (.invokevirtual 447, 3, 285, 0, 0) from rfl) rfl (by decide) rfl (by rw [E.1, E.2.1, E.2.2.1]; exact k_gor9 G 8 Is172 JRLx_s172 JMDJ_s172 hGJ Qs172.2.2 (by first | exact ⟨by decide, b175.1⟩ | omega) (by first | exact oq_a8ea036d hs172.2.2.2.2.2.2.2.2.2.1 | omega) (by first | exact hs172.2.2.2.2.2.2.2.2.2.1 | omega) (by first | exact oq_5d5b93d4 hs172.2.2.2.1.2 hs172.2.2.2.1.1 g120 hps118 | omega) (by first | exact ⟨hs172.1.1, hs172.1.2⟩ | omega) (by first | exact ⟨hs172.2.1.1, hs172.2.1.2⟩ | omega) (by first | exact ⟨hs172.2.2.1.1, hs172.2.2.1.2⟩ | omega) (by first | exact ⟨by decide, by decide⟩ | omega) (hGP)) ⟨by rw [E.2.2.2]; exact (show 72 + 1 ≤ 73 from oq_26188e76), by rw [E.2.2.2]; exact (show 8 + (8 + 11) + 3200 ≤ 3227 from oq_e592698d), by rw [E.2.2.2]; exact Nat.le_refl 0, by rw [E.2.2.2]; exact Nat.le_refl 0⟩ (Nat.le_of_ble_eq_true rfl) (fun vv s179 hq => ?_) (fun ee s179 hq => ?_)
                rotate_left
                · obtain ⟨Is179, Fs179, JRLx_s179, JMZJ_s179, hv, hps179⟩ := hq; cases hv
                obtain ⟨Is179, Fs179, JRLx_s179, JMZJ_s179, hv, hps179⟩ := hq
                cases hv
                have Gs179 := fm_ts Fs172 Fs179 (by decide) (by decide)
                have JRLx_s179 : RLx s179 := RLx_fm Fs179 (by decide) JRLx_s172
                have JMDJ_s179 : MDJ U s179 := MDJ_fm Fs179 (by decide) JMDJ_s172
                have JGTJ_s179 : GTJ U (stM s) (x : Int).toNat (fitK9 U (stM s) (x : Int).toNat (pfM s) (fun j => iC s 229 j)) s179 := GTJ_fm Fs179 (by decide) hGJ
                have ws179_73 : iI s179 73 = iI s172 73 := fm_i Fs179 (by decide)
                have ws179_105 : iI s179 105 = iI s172 105 := fm_i Fs179 (by decide)
                have ws179_90 : iI s179 90 = iI s172 90 := fm_i Fs179 (by decide)
                have b181 : ((-2147483648) : Int) ≤ iI s179 106 ∧ iI s179 106 ≤ 2147483647 := Is179.1 106
                have ws179_89 : iI s179 89 = iI s172 89 := fm_i Fs179 (by decide)
                show WS k 212 [(0, .ref (A 179)), (1, .int (Int32.ofInt x)), (2, .int (Int32.ofInt y)), (3, .int (Int32.ofInt z)), (4, .int (Int32.ofInt w)), (6, .int (Int32.ofInt x173))] [] (Wd A dT s179) 0 0
                have hBS := slm_of hps179
                refine z_aload_n X (x := A 179) (show cdA 286 212 = some (.aload_n 0, 1, 0, 0, 0) from rfl) (List.Mem.head _) ?_
                refine z_getI X 179 (show cdA 286 213 = some (.getfield 434, 3, 12, 75, 0) from rfl) (by decide) rfl rfl ?_
                have b182 : ((-2147483648) : Int) ≤ iI s179 106 ∧ iI s179 106 ≤ 2147483647 := Is179.1 106
                refine z_const X (show cdA 286 216 = some (.iconst (-1), 1, 0, 0, 0) from rfl) ?_
                refine z_icmp_ne X (t := 224) (show cdA 286 217 = some (.if_icmp .ne 7, 3, 1, 0, 0) from rfl) (by decide) (rng_to _) (by decide) (fun g183 => ?_) (fun g183 => ?_)
                ·
                  refine z_load X (x := w) (show cdA 286 224 = some (.iload 4, 2, 0, 0, 0) from rfl) (List.Mem.tail _ (List.Mem.tail _ (List.Mem.tail _ (List.Mem.tail _ (List.Mem.head _))))) ?_
                  refine z_const X (show cdA 286 226 = some (.iconst (-1), 1, 0, 0, 0) from rfl) ?_
                  refine z_icmp_ne X (t := 237) (show cdA 286 227 = some (.if_icmp .ne 10, 3, 1, 0, 0) from rfl) (by decide) ⟨by first | exact p3.1 | omega, by first | exact p3.2 | omega⟩ (by decide) (fun g184 => ?_) (fun g184 => ?_)
                  ·
                    refine z_load X (x := w) (show cdA 286 237 = some (.iload 4, 2, 0, 0, 0) from rfl) (List.Mem.tail _ (List.Mem.tail _ (List.Mem.tail _ (List.Mem.tail _ (List.Mem.head _))))) ?_
                    refine z_aload_n X (x := A 179) (show cdA 286 239 = some (.aload_n 0, 1, 0, 0, 0) from rfl) (List.Mem.head _) ?_
                    refine z_getI X 179 (show cdA 286 240 = some (.getfield 233, 3, 12, 22, 0) from rfl) (by decide) rfl rfl ?_
                    have b185 : (0 : Int) ≤ iI s179 90 ∧ iI s179 90 ≤ 12 := Is179.1 90
                    refine z_icmp_ge X (t := 256) (show cdA 286 243 = some (.if_icmp .ge 13, 3, 3, 0, 0) from rfl) (by decide) ⟨by first | exact p3.1 | omega, by first | exact p3.2 | omega⟩ (rng_to _) (fun g186 => ?_) (fun g186 => ?_)
                    ·
                      refine z_const X (show cdA 286 256 = some (.iconst 0, 1, 0, 0, 0) from rfl) ?_
                      exact w_iret X.1 q hRt rfl (ax_d X (show cdA 286 257 = some (.ireturn, 1, 0, 0, 0) from rfl)) (Nat.zero_le _) (Nat.zero_le _) ⟨_, rfl, Is179, Gs179, JRLx_s179, 0, rfl, (by decide), Or.inl ⟨by first | exact ⟨hs172.1.1, hs172.1.2⟩ | omega, by first | exact ⟨hs172.2.1.1, hs172.2.1.2⟩ | omega, by first | exact ⟨hs172.2.2.1.1, hs172.2.2.1.2⟩ | omega, by first | exact ⟨hs172.2.2.2.1.1, hs172.2.2.2.1.2⟩ | omega, by first | exact oq_333640b7 ws179_73 hs172.2.2.2.2.1 b174.1 | omega, mnm_s hBS (by first | (clear g184 g183 g168 hps155 hps118 g83 hps81 g46 hps44 g9 hps7; omega) | (clear g183 g168 hps155 hps118 g83 hps81 g46 hps44 g9 hps7; omega) | omega) (by first | (clear g184 g183 g168 hps155 hps118 g83 hps81 g46 hps44 g9 hps7; omega) | (clear g183 g168 hps155 hps118 g83 hps81 g46 hps44 g9 hps7; omega) | omega) (by first | (clear g184 g183 g168 hps155 hps118 g83 hps81 g46 hps44 g9 hps7; omega) | (clear g183 g168 hps155 hps118 g83 hps81 g46 hps44 g9 hps7; omega) | omega) (Or.inr ⟨by first | (clear g184 g183 g168 hps155 hps118 g83 hps81 g46 hps44 g9 hps7; omega) | (clear g183 g168 hps155 hps118 g83 hps81 g46 hps44 g9 hps7; omega) | omega, rfl⟩)⟩⟩
                    ·
                      refine z_aload_n X (x := A 179) (show cdA 286 246 = some (.aload_n 0, 1, 0, 0, 0) from rfl) (List.Mem.head _) ?_
                      refine s_getR X 179 (show cdA 286 247 = some (.getfield 148, 3, 12, 70, 0) from rfl) (by decide) rfl rfl ?_
                      refine z_load X (x := w) (show cdA 286 250 = some (.iload 4, 2, 0, 0, 0) from rfl) (List.Mem.tail _ (List.Mem.tail _ (List.Mem.tail _ (List.Mem.tail _ (List.Mem.head _))))) ?_
                      refine z_ald X 457 (show cdA 286 252 = some (.iaload, 1, 0, 0, 0) from rfl) (by decide) rfl (by first | exact oq_33feeab9 g184 hs172.2.2.2.1.1 g168 | omega) (show w < 12 by first | exact oq_0ddfcfee hs172.2.2.2.1.2 | omega) (by decide) ?_
                      have b187 : (0 : Int) ≤ iC s179 402 (w).toNat ∧ iC s179 402 (w).toNat ≤ 3 := Is179.2 402 _ (show (w).toNat < 12 by first | exact oq_9c5fa447 hs172.2.2.2.1.2 | omega)
                      refine z_goto X (t := 257) (show cdA 286 253 = some (.goto 4, 3, 0, 0, 0) from rfl) (by decide) ?_
                      exact w_iret X.1 q hRt rfl (ax_d X (show cdA 286 257 = some (.ireturn, 1, 0, 0, 0) from rfl)) (Nat.zero_le _) (Nat.zero_le _) ⟨_, rfl, Is179, Gs179, JRLx_s179, (iC s179 402 (w).toNat), rfl, (rng_to _), Or.inl ⟨by first | exact ⟨hs172.1.1, hs172.1.2⟩ | omega, by first | exact ⟨hs172.2.1.1, hs172.2.1.2⟩ | omega, by first | exact ⟨hs172.2.2.1.1, hs172.2.2.1.2⟩ | omega, by first | exact ⟨hs172.2.2.2.1.1, hs172.2.2.2.1.2⟩ | omega, by first | exact oq_333640b7 ws179_73 hs172.2.2.2.2.1 b174.1 | omega, mnm_s hBS (by first | (clear g184 g183 g168 hps155 hps118 g83 hps81 g46 hps44 g9 hps7; omega) | (clear g183 g168 hps155 hps118 g83 hps81 g46 hps44 g9 hps7; omega) | omega) (by first | (clear g184 g183 g168 hps155 hps118 g83 hps81 g46 hps44 g9 hps7; omega) | (clear g183 g168 hps155 hps118 g83 hps81 g46 hps44 g9 hps7; omega) | omega) (by first | (clear g184 g183 g168 hps155 hps118 g83 hps81 g46 hps44 g9 hps7; omega) | (clear g183 g168 hps155 hps118 g83 hps81 g46 hps44 g9 hps7; omega) | omega) (Or.inl ⟨by first | (clear g184 g183 g168 hps155 hps118 g83 hps81 g46 hps44 g9 hps7; omega) | (clear g183 g168 hps155 hps118 g83 hps81 g46 hps44 g9 hps7; omega) | omega, rfl⟩)⟩⟩
                  ·
                    refine z_aload_n X (x := A 179) (show cdA 286 230 = some (.aload_n 0, 1, 0, 0, 0) from rfl) (List.Mem.head _) ?_
                    refine z_getI X 179 (show cdA 286 231 = some (.getfield 434, 3, 12, 75, 0) from rfl) (by decide) rfl rfl ?_
                    have b188 : ((-2147483648) : Int) ≤ iI s179 106 ∧ iI s179 106 ≤ 2147483647 := Is179.1 106
                    refine z_goto X (t := 257) (show cdA 286 234 = some (.goto 23, 3, 0, 0, 0) from rfl) (by decide) ?_
                    exact w_iret X.1 q hRt rfl (ax_d X (show cdA 286 257 = some (.ireturn, 1, 0, 0, 0) from rfl)) (Nat.zero_le _) (Nat.zero_le _) ⟨_, rfl, Is179, Gs179, JRLx_s179, (iI s179 106), rfl, (rng_to _), Or.inl ⟨by first | exact ⟨hs172.1.1, hs172.1.2⟩ | omega, by first | exact ⟨hs172.2.1.1, hs172.2.1.2⟩ | omega, by first | exact ⟨hs172.2.2.1.1, hs172.2.2.1.2⟩ | omega, by first | exact ⟨hs172.2.2.2.1.1, hs172.2.2.2.1.2⟩ | omega, by first | exact oq_333640b7 ws179_73 hs172.2.2.2.2.1 b174.1 | omega, mnm_m hBS (by first | (clear g183 g168 hps155 hps118 g83 hps81 g46 hps44 g9 hps7; omega) | (clear g168 hps155 hps118 g83 hps81 g46 hps44 g9 hps7; omega) | omega) (by first | (clear g183 g168 hps155 hps118 g83 hps81 g46 hps44 g9 hps7; omega) | (clear g168 hps155 hps118 g83 hps81 g46 hps44 g9 hps7; omega) | omega) ⟨by first | (clear g183 g168 hps155 hps118 g83 hps81 g46 hps44 g9 hps7; omega) | (clear g168 hps155 hps118 g83 hps81 g46 hps44 g9 hps7; omega) | omega, rfl⟩⟩⟩
                ·
                  refine z_const X (show cdA 286 220 = some (.iconst (-1), 1, 0, 0, 0) from rfl) ?_
                  refine z_goto X (t := 257) (show cdA 286 221 = some (.goto 36, 3, 0, 0, 0) from rfl) (by decide) ?_
                  exact w_iret X.1 q hRt rfl (ax_d X (show cdA 286 257 = some (.ireturn, 1, 0, 0, 0) from rfl)) (Nat.zero_le _) (Nat.zero_le _) ⟨_, rfl, Is179, Gs179, JRLx_s179, (-1), rfl, (by decide), Or.inl ⟨by first | exact ⟨hs172.1.1, hs172.1.2⟩ | omega, by first | exact ⟨hs172.2.1.1, hs172.2.1.2⟩ | omega, by first | exact ⟨hs172.2.2.1.1, hs172.2.2.1.2⟩ | omega, by first | exact ⟨hs172.2.2.2.1.1, hs172.2.2.2.1.2⟩ | omega, by first | exact oq_333640b7 ws179_73 hs172.2.2.2.2.1 b174.1 | omega, Or.inr (Or.inl ⟨by first | (clear g168 hps155 hps118 g83 hps81 g46 hps44 g9 hps7; omega) | (clear hps155 hps118 g83 hps81 g46 hps44 g9 hps7; omega) | omega, Or.inr (bso9_0 hBS (by first | (clear g168 hps155 hps118 g83 hps81 g46 hps44 g9 hps7; omega) | (clear hps155 hps118 g83 hps81 g46 hps44 g9 hps7; omega) | omega)), rfl⟩)⟩⟩
              ·
                refine z_const X (show cdA 286 172 = some (.iconst (-1), 1, 0, 0, 0) from rfl) ?_
                exact w_iret X.1 q hRt rfl (ax_d X (show cdA 286 173 = some (.ireturn, 1, 0, 0, 0) from rfl)) (Nat.zero_le _) (Nat.zero_le _) ⟨_, rfl, Is169, Fs169, JRLx_s169, (-1), rfl, (by decide), Or.inl ⟨by first | exact ⟨hs160.1.1, hs160.1.2⟩ | omega, by first | exact ⟨hs160.2.1.1, hs160.2.1.2⟩ | omega, by first | exact ⟨hs160.2.2.1.1, hs160.2.2.1.2⟩ | omega, by first | exact ⟨hs160.2.2.2.1.1, hs160.2.2.2.1.2⟩ | omega, by first | exact oq_333640b7 ws169_73 hs160.2.2.2.2.1 b163.1 | omega, Or.inr (Or.inl ⟨by first | (clear g168 hps155 hps118 g83 hps81 g46 hps44 g9 hps7; omega) | (clear hps155 hps118 g83 hps81 g46 hps44 g9 hps7; omega) | omega, Or.inl (by first | (clear g168 hps155 hps118 g83 hps81 g46 hps44 g9 hps7; omega) | (clear hps155 hps118 g83 hps81 g46 hps44 g9 hps7; omega) | omega), rfl⟩)⟩⟩
            ·
              refine z_load X (x := x161) (show cdA 286 155 = some (.iload 5, 2, 0, 0, 0) from rfl) (List.Mem.tail _ (List.Mem.tail _ (List.Mem.tail _ (List.Mem.tail _ (List.Mem.tail _ (List.Mem.head _)))))) ?_
              exact w_iret X.1 q hRt rfl (ax_d X (show cdA 286 157 = some (.ireturn, 1, 0, 0, 0) from rfl)) (Nat.zero_le _) (Nat.zero_le _) ⟨_, rfl, Is160, Fs160, JRLx_s160, x161, rfl, ⟨by first | exact hs160.2.2.2.2.2.2.2.2.1.1 | omega, by first | exact hs160.2.2.2.2.2.2.2.2.1.2 | omega⟩, Or.inl ⟨by first | exact ⟨hs160.1.1, hs160.1.2⟩ | omega, by first | exact ⟨hs160.2.1.1, hs160.2.1.2⟩ | omega, by first | exact ⟨hs160.2.2.1.1, hs160.2.2.1.2⟩ | omega, by first | exact ⟨hs160.2.2.2.1.1, hs160.2.2.2.1.2⟩ | omega, by first | exact hs160.2.2.2.2.1 | omega, Or.inl ⟨by first | (clear hps155 hps118 g83 hps81 g46 hps44 g9 hps7; omega) | (clear hps118 g83 hps81 g46 hps44 g9 hps7; omega) | omega, ⟨by first | exact hs160.2.2.2.2.2.2.2.2.1.1 | omega, by first | exact hs160.2.2.2.2.2.2.2.2.1.2 | omega⟩, by have zz := hHS.2.1; rw [Int.toNat_natCast] at zz; exact zz⟩⟩⟩
          ·
            refine z_const X (show cdA 286 60 = some (.iconst 0, 1, 0, 0, 0) from rfl) ?_
            exact w_iret X.1 q hRt rfl (ax_d X (show cdA 286 61 = some (.ireturn, 1, 0, 0, 0) from rfl)) (Nat.zero_le _) (Nat.zero_le _) ⟨_, rfl, Is155, Gs155, JRLx_s155, 0, rfl, (by decide), Or.inr ⟨by first | exact oq_0d043b07 g120 hps118 | omega, by first | (clear g158 hps155 hps118 g83 hps81 g46 hps44 g9 hps7; omega) | (clear hps155 hps118 g83 hps81 g46 hps44 g9 hps7; omega) | omega⟩⟩
end M87ld

end
