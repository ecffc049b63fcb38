/-! One air for both: what the law's relations come to -/
def LIJ (s : PS) : Prop := iI s 90 ≤ 12 ∧ ∀ x c : Nat, (x : Int) < iI s 90 → c < 128 → (iC s (178 + x) c = -1 ∧ ∀ k : Nat, (k : Int) < iC s 162 x → iC s (166 + x) k ≠ (c : Int)) ∨ ∃ k : Nat, (k : Int) < iC s 162 x ∧ iC s (166 + x) k = (c : Int) ∧ iC s (178 + x) c = (k : Int)
theorem LIJ_fm {L M : List Nat} {s t : PS} (F : Fm L M s t) (h : 90 ∉ L ∧ 162 ∉ M ∧ ∀ i, i < 12 → 166 + i ∉ M ∧ 178 + i ∉ M) (r : LIJ s) : LIJ t := ⟨by rw [fm_i F h.1]; exact r.1, fun x c hx hc => by
  rw [fm_i F h.1] at hx
  have n := r.1
  have w := h.2.2 x (by omega)
  rw [fm_c F h.2.1, fm_c F w.2]
  have e : ∀ k, iC t (166 + x) k = iC s (166 + x) k := fun k => fm_c F w.1
  simp only [e]
  exact r.2 x c hx hc⟩
theorem lij_up {B : Nat → Int} {y : Int} {s t : PS} (h : WNM B y s t) (r : LIJ s) (n : 0 ≤ iI s 90) (n1 : iI t 90 ≤ 12) : LIJ t := ⟨n1, fun x c hx hc => by
  have n0 := r.1
  rcases h with ⟨h1, h2⟩ | ⟨h1, h2, h3⟩
  · have hx' : (x : Int) < iI s 90 := by omega
    have hx2 : x < 12 := by omega
    obtain ⟨q1, q2⟩ := h2
    have e1 : iC t 162 x = iC s 162 x := q1 x
    have e2 : ∀ k, iC t (166 + x) k = iC s (166 + x) k := fun k => (q2 x k hx2).1
    have e3 : iC t (178 + x) c = iC s (178 + x) c := (q2 x c hx2).2
    rw [e1, e3]
    simp only [e2]
    exact r.2 x c hx' hc
  · obtain ⟨a, a1, a2, a3, a4, a5, a6, a7⟩ := h2
    by_cases z : x = (iI s 90).toNat
    · rw [z, a4]
      have k24 : ∀ k : Nat, (k : Int) < a.1 → (k : Int) < 24 := fun k hk => by omega
      rcases h3 a a1 c hc with ⟨b1, b2⟩ | ⟨k, b1, b2, b3, b4⟩
      · exact Or.inl ⟨b1, fun k hk => by rw [a7 k (k24 k hk) hk]; exact b2 k (k24 k hk) hk⟩
      · exact Or.inr ⟨k, b2, by rw [a7 k b1 b2]; exact b3, b4⟩
    · have hx' : (x : Int) < iI s 90 := by omega
      have hx2 : x < (iI s 90).toNat := by omega
      have e1 : iC t 162 x = iC s 162 x := a5 x hx2
      have e2 : ∀ k, iC t (166 + x) k = iC s (166 + x) k := fun k => (a6 x k hx2).1
      have e3 : iC t (178 + x) c = iC s (178 + x) c := (a6 x c hx2).2
      rw [e1, e3]
      simp only [e2]
      exact r.2 x c hx' hc⟩
/-- streams that are not there yet: nobody flies them -/
def NZJ (s : PS) : Prop := ∀ x k : Int, iI s 9 ≤ x → 0 ≤ x → x ≤ 11 → 0 ≤ k → k ≤ 23 → CNR s x k = 0
theorem nzj_m {s : PS} (h : NZJ s) (m : MOI s) {x : Int} (x0 : iI s 9 ≤ x) (x1 : 0 ≤ x) (x2 : x ≤ 11) : ∀ q : Nat, q < 24 → iC s 11 ((q : Int) * 12 + x).toNat = 0 := fun q hq => by
  have w := m.1 x (q : Int) x1 x2 (by omega) (by omega)
  rcases w.2.2 with w | ⟨k, k0, k1, k2, k3, k4⟩
  · exact w
  · rw [← k4]; exact h x k x0 x1 x2 k0 k1
theorem mx_cg {f f' : Int → Int} {l h g : Int} (m : MXG f l h g) (hf : ∀ k : Int, 0 ≤ k → k ≤ 23 → f k = f' k) : MXG f' l h g := ⟨m.1, fun k k0 k1 a b => by rw [← hf k k0 k1]; exact m.2.1 k k0 k1 a b, m.2.2.imp id (fun ⟨k, k0, k1, a, b, e⟩ => ⟨k, k0, k1, a, b, (hf k k0 k1).symm.trans e⟩)⟩
/-- the air of both -/
theorem air_U {s : PS} (hA : AIR s) (hW : WQJ s) (hL : LIJ s) (hM : MQJ s) (hT : TWJ s) (hR : RLJ s) (hn : iI s 9 = iI s 90) (c0 : 0 ≤ iI s 9) : ∃ U : AirD, CDJ U s ∧ MDJ U s ∧ CCJ U s := by
  obtain ⟨L, r1, r2, r3⟩ := hR
  have n12 := hA.1
  have en : (((iI s 9).toNat : Nat) : Int) = iI s 9 := by omega
  have wk : ∀ x : Nat, x < (iI s 9).toNat → WOK (fwC s x) (iC s 2 x) := fun x hx => (hA.2 x (by omega)).1
  refine ⟨(L, WYC s, fun q x => iC s 11 (12 * q + x), fun x => iC s 12 x, (iI s 9).toNat), ⟨⟨en.symm, by show (iI s 9).toNat ≤ 12; omega⟩, wye_rf, fun _ _ _ _ => rfl, fun _ _ => rfl, fun q hq => ?_, r1⟩, ⟨⟨by show iI s 90 = (((iI s 9).toNat : Nat) : Int); omega, by show (iI s 9).toNat ≤ 12; omega⟩, fun x hx => ?_, wk, fun x c hx hc => ?_, fun q x hq hx => ?_, fun x hx => ?_, r2⟩, r3⟩
  · have w := hT q (by omega)
    refine ⟨w.1, fun x hx => ?_⟩
    replace hx : x < (iI s 9).toNat := hx
    have z := w.2 x (by omega)
    show iC s 11 (12 * q + x) = iC s 11 (12 * (iC s 14 q).toNat + x)
    rw [show 12 * q + x = ((q : Int) * 12 + (x : Int)).toNat by omega, show 12 * (iC s 14 q).toNat + x = (iC s 14 q * 12 + (x : Int)).toNat by omega]
    exact z
  · replace hx : x < (iI s 9).toNat := hx
    have w := hW.2 x (by omega)
    refine ⟨w.1.symm, fun k hk => ?_⟩
    replace hk : (k : Int) < iC s 162 x := hk
    have z := w.2 k (by rw [w.1]; exact hk)
    show iC s (166 + x) k = iC s 1 (24 * x + k)
    rw [← z, show x * 24 + k = 24 * x + k by omega]
  · replace hx : x < (iI s 9).toNat := hx
    have w := hW.2 x (by omega)
    have e : ∀ k : Nat, (k : Int) < iC s 2 x → iC s 1 (24 * x + k) = iC s (166 + x) k := fun k hk => by rw [show 24 * x + k = x * 24 + k by omega]; exact w.2 k hk
    rcases hL.2 x c (by omega) hc with ⟨b1, b2⟩ | ⟨k, b1, b2, b3⟩
    · refine Or.inl ⟨b1, fun k hk => ?_⟩
      replace hk : (k : Int) < iC s 2 x := hk
      show iC s 1 (24 * x + k) ≠ (c : Int)
      rw [e k hk]; exact b2 k (by rw [← w.1]; exact hk)
    · have b1' : (k : Int) < iC s 2 x := by rw [w.1]; exact b1
      exact Or.inr ⟨k, b1', (e k b1').trans b2, b3⟩
  · replace hx : x < (iI s 9).toNat := hx
    show MXG (CMR s (x : Int)) ((q : Int) - iC s 164 x) ((q : Int) + iC s 163 x + 1) (iC s 11 (12 * q + x))
    have w := hM.1.1 (x : Int) (q : Int) (by omega) (by omega) (by omega) (by omega)
    rw [show ((x : Int)).toNat = x by omega, hM.2.2.1 x (by omega), hM.2.2.2 x (by omega), show ((q : Int) * 12 + (x : Int)).toNat = 12 * q + x by omega] at w
    exact mx_cg w (fun k k0 k1 => hM.2.1 (x : Int) k (by omega) (by omega) k0 k1)
  · replace hx : x < (iI s 9).toNat := hx
    have w := hM.1.2 (x : Int) (by omega) (by omega)
    rw [show ((x : Int)).toNat = x by omega] at w
    show sqn (CMR s (x : Int)) 24 = iC s 12 x
    rw [w]
    exact sqn_f (fun k k0 k1 => (hM.2.1 (x : Int) k (by omega) (by omega) k0 (by omega)).symm)
section M87k7
variable {l : Launch} {s0 : State} {D : va_G} {tys : List (ClassId × FieldType)} {a0 : Array Value} {A : Nat → Nat} {dT : Nat → ClassId} {s : PS}
end M87k7
