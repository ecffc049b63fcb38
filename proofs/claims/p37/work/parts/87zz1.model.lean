/-! Mends: model, who is hit, the way round -/
def stM (s : PS) (c : Int) : Prop := (0 ≤ c ∧ c ≤ 127) ∧ iC s 399 c.toNat ≠ 0
theorem stm_s {s t : PS} (h : SAM 399 s t) : stM t = stM s := funext (fun c => propext (by unfold stM; rw [h]))
def VHQ (S : Int → Prop) (f : Nat → Int) (c i : Int) : Prop := (i = 1 ∧ ∃ k : Nat, (k : Int) < c ∧ S (f k)) ∨ (i = 0 ∧ ∀ k : Nat, (k : Int) < c → ¬ S (f k))
theorem vhq_0 {S : Int → Prop} {f : Nat → Int} : VHQ S f 0 0 := Or.inr ⟨rfl, fun k hk => absurd hk (by omega)⟩
theorem vhq_1 {S : Int → Prop} {f : Nat → Int} {c i : Int} (h : VHQ S f c i) (hi : i ≠ 0) : VHQ S f (c + 1) 1 := by
  rcases h with ⟨_, k, k1, k2⟩ | ⟨a, _⟩
  · exact Or.inl ⟨rfl, k, by omega, k2⟩
  · exact absurd a hi
theorem vhq_s {S : Int → Prop} {f : Nat → Int} {c : Int} (c0 : 0 ≤ c) (h : S (f c.toNat)) : VHQ S f (c + 1) 1 := Or.inl ⟨rfl, c.toNat, by omega, h⟩
theorem vhq_n {S : Int → Prop} {f : Nat → Int} {c i : Int} (h : VHQ S f c i) (hi : i = 0) (c0 : 0 ≤ c) (hn : ¬ S (f c.toNat)) : VHQ S f (c + 1) 0 := by
  rcases h with ⟨a, _⟩ | ⟨_, b⟩
  · omega
  · refine Or.inr ⟨rfl, fun k hk => ?_⟩
    by_cases z : k = c.toNat
    · rw [z]; exact hn
    · exact b k (by omega)
theorem vhq_e {S : Int → Prop} {f : Nat → Int} {c i z : Int} (h : VHQ S f c i) (hz : c = z) : (i = 1 ∧ viH S f z) ∨ (i = 0 ∧ ¬ viH S f z) := by
  rw [hz] at h
  rcases h with ⟨a, b⟩ | ⟨a, b⟩
  · exact Or.inl ⟨a, b⟩
  · exact Or.inr ⟨a, fun ⟨k, k1, k2⟩ => b k k1 k2⟩
theorem mo_un {U : AirD} {x q e : Int} {s : PS} (d : MDJ U s) (x0 : 0 ≤ x ∧ x < (uN U : Int)) (q0 : 0 ≤ q ∧ q ≤ 23) (he : MXG (CMR s x) (q - iC s 164 x.toNat) (q + iC s 163 x.toNat + 1) e) : e = uM U q.toNat x.toNat := by
  have m := d.2.2.2.2.1 q.toNat x.toNat (by omega) (by omega)
  rw [show ((q.toNat : Nat) : Int) = q by omega, show ((x.toNat : Nat) : Int) = x by omega] at m
  exact mx_un he m (fun _ _ _ => rfl)
/-- the other streams' ways round stand -/
def RKP (x : Int) (s t : PS) : Prop := (∀ j : Nat, j ≠ x.toNat → iC t 403 j = iC s 403 j) ∧ ∀ j k : Nat, j < 12 → j ≠ x.toNat → iC t (405 + j) k = iC s (405 + j) k
theorem rkp_0 {x : Int} {s : PS} : RKP x s s := ⟨fun _ _ => rfl, fun _ _ _ _ => rfl⟩
theorem rkp_a {x : Int} {a i : Nat} {v : Int32} {s t u : PS} (h : RKP x s t) (ha : a < 403 ∨ (403 < a ∧ a < 405) ∨ 405 + 12 ≤ a) (e : u = uC t a i v) : RKP x s u := ⟨fun j hj => by rw [e, iC_a (by omega)]; exact h.1 j hj, fun j k hj hx => by rw [e, iC_a (by omega)]; exact h.2 j k hj hx⟩
theorem rkp_m {x : Int} {v : Int32} {s t u : PS} (h : RKP x s t) (e : u = uC t 403 x.toNat v) : RKP x s u := ⟨fun j hj => by rw [e, iC_n hj]; exact h.1 j hj, fun j k hj hx => by rw [e, iC_a (by omega)]; exact h.2 j k hj hx⟩
theorem rkp_r {x : Int} {i : Nat} {v : Int32} {s t u : PS} (h : RKP x s t) (e : u = uC t (405 + x.toNat) i v) : RKP x s u := ⟨fun j hj => by rw [e, iC_a (by omega)]; exact h.1 j hj, fun j k hj hx => by rw [e, iC_a (by omega)]; exact h.2 j k hj hx⟩
/-- the least of the nearer ones so far -/
def NMN9 (S : Int → Prop) (fr : Nat → Int) (x be c : Int) : Prop := (be = -1 ∧ ∀ g : Int, 0 ≤ g → g < c → besT x g ≠ -1 → ¬ S (besT x g) → fr (besT x g).toNat ≠ fr x.toNat - 1) ∨ ((∃ g : Int, 0 ≤ g ∧ g < c ∧ be = besT x g) ∧ be ≠ -1 ∧ fr be.toNat = fr x.toNat - 1 ∧ ∀ g : Int, 0 ≤ g → g < c → besT x g ≠ -1 → ¬ S (besT x g) → fr (besT x g).toNat = fr x.toNat - 1 → be ≤ besT x g)
theorem nmn9_0 {S : Int → Prop} {fr : Nat → Int} {x : Int} : NMN9 S fr x (-1) 0 := Or.inl ⟨rfl, fun g h0 h1 => absurd h1 (by omega)⟩
theorem nmn9_n {S : Int → Prop} {fr : Nat → Int} {x be c d : Int} (h : NMN9 S fr x be c) (hd : d = besT x c) (hn : d = -1 ∨ S d ∨ fr d.toNat ≠ fr x.toNat - 1 ∨ (be ≠ -1 ∧ be ≤ d)) : NMN9 S fr x be (c + 1) := by
  rcases h with ⟨a, b⟩ | ⟨⟨g0, g1, g2, g3⟩, b, e, f⟩
  · refine Or.inl ⟨a, fun g h0 h1 h2 h3 => ?_⟩
    by_cases z : g = c
    · rw [z, ← hd] at h2 h3 ⊢
      rcases hn with w | w | w | w
      · exact absurd w h2
      · exact absurd w h3
      · exact w
      · exact absurd a w.1
    · exact b g h0 (by omega) h2 h3
  · refine Or.inr ⟨⟨g0, g1, by omega, g3⟩, b, e, fun g h0 h1 h2 h3 h4 => ?_⟩
    by_cases z : g = c
    · rw [z, ← hd] at h2 h3 h4 ⊢
      rcases hn with w | w | w | w
      · exact absurd w h2
      · exact absurd w h3
      · exact absurd h4 w
      · exact w.2
    · exact f g h0 (by omega) h2 h3 h4
theorem nmn9_y {S : Int → Prop} {fr : Nat → Int} {x be c d : Int} (h : NMN9 S fr x be c) (c0 : 0 ≤ c) (hd : d = besT x c) (d1 : d ≠ -1) (hf : fr d.toNat = fr x.toNat - 1) (hb : be = -1 ∨ d < be) : NMN9 S fr x d (c + 1) := by
  refine Or.inr ⟨⟨c, c0, by omega, hd⟩, d1, hf, fun g h0 h1 h2 h3 h4 => ?_⟩
  by_cases z : g = c
  · rw [z, ← hd]; exact Int.le_refl _
  · rcases h with ⟨a, b⟩ | ⟨_, b, e, f⟩
    · exact absurd h4 (b g h0 (by omega) h2 h3)
    · have := f g h0 (by omega) h2 h3 h4
      omega
theorem nmn9_e {S : Int → Prop} {fr : Nat → Int} {x be : Int} (h : NMN9 S fr x be 6) (w : ∃ e : Int, adjT x e ∧ fr e.toNat = fr x.toNat - 1) (hS : ∀ d : Int, adjT x d → fr d.toNat = fr x.toNat - 1 → ¬ S d) : NRP fr x be := by
  rcases h with ⟨a, b⟩ | ⟨⟨g0, g1, g2, g3⟩, b, e, f⟩
  · obtain ⟨d, d1, d2⟩ := w
    have hs := hS d d1 d2
    obtain ⟨g, k1, k2, k3, k4⟩ := d1
    subst k3
    exact absurd d2 (b g k1 (by omega) k4 hs)
  · refine ⟨⟨g0, g1, by omega, g3.symm, b⟩, e, fun d d1 d2 => ?_⟩
    have hs := hS d d1 d2
    obtain ⟨g, k1, k2, k3, k4⟩ := d1
    subst k3
    exact f g k1 (by omega) k4 hs d2
def SPM (S : Int → Prop) (b h g n : Int) (t : PS) : Prop := BFQ 404 232 (bfN S b (6 * h + g).toNat) n t ∧ BFI S (bfN S b (6 * h + g).toNat) ∧ BFW S b h
theorem spm_0 {S : Int → Prop} {b : Int} {s t : PS} (b0 : 0 ≤ b ∧ b ≤ 127) (hb : ¬ S b) (h1 : ∀ c : Nat, c < 128 → iC s 404 c = -1) (h2 : UPD 404 b 0 s t) (h3 : iC t 232 0 = b) : SPM S b 0 0 1 t := ⟨bfq_0 b0 (fun c hc => by
  by_cases z : c = b.toNat
  · rw [if_pos z, z]; exact h2.1
  · rw [if_neg z, h2.2 c z]; exact h1 c hc) h3, bfi_0 b0 hb, bfw_0⟩
theorem spm_n {S : Int → Prop} {b h g n d : Int} {t : PS} (q : SPM S b h g n t) (h0 : 0 ≤ h ∧ h < n) (g0 : 0 ≤ g ∧ g ≤ 5) (hd : d = besT (iC t 232 h.toNat) g) (hn : d = -1 ∨ (0 ≤ d ∧ d ≤ 127 ∧ (iC t 404 d.toNat ≠ -1 ∨ S d ∨ 128 ≤ n))) : SPM S b h (g + 1) n t := by
  unfold SPM
  rw [bfn_up h0.1 g0]
  exact ⟨bfq_n q.1 h0 hd hn, bfi_up q.2.1 (by have := q.1.2.2; omega) g0, q.2.2⟩
theorem spm_y {S : Int → Prop} {b h g n d v : Int} {t u : PS} (q : SPM S b h g n t) (h0 : 0 ≤ h ∧ h < n) (g0 : 0 ≤ g ∧ g ≤ 5) (hd : d = besT (iC t 232 h.toNat) g) (d0 : 0 ≤ d ∧ d ≤ 127) (hf : iC t 404 d.toNat = -1) (hS : ¬ S d) (n1 : n < 128) (hx : 0 ≤ iC t 232 h.toNat ∧ iC t 232 h.toNat ≤ 127) (hv : v = iC t 404 (iC t 232 h.toNat).toNat + 1) (h1 : UPD 404 d v t u) (h2 : UPD 232 n d t u) : SPM S b h (g + 1) (n + 1) u := by
  unfold SPM
  rw [bfn_up h0.1 g0]
  exact ⟨bfq_y q.1 h0 hd d0 hf hS n1 hx hv h1 h2, bfi_up q.2.1 (by have := q.1.2.2; omega) g0, q.2.2⟩
theorem spm_nx {S : Int → Prop} {b h n m : Int} {t : PS} (q : SPM S b h 6 n t) (h0 : 0 ≤ h) (hm : m = ((bfN S b (6 * h + 0).toNat).2.2 : Int)) (hh : h < m) : SPM S b (h + 1) 0 n t := by
  unfold SPM
  rw [show (6 * (h + 1) + 0).toNat = (6 * h + 6).toNat by omega]
  exact ⟨q.1, q.2.1, bfw_up q.2.2 h0 hm hh⟩
def FRM8 (S : Int → Prop) (b : Int) (t : PS) : Prop := ∃ σ, BFE S b σ ∧ BFI S σ ∧ ∀ c : Nat, c < 128 → iC t 404 c = σ.1 c
theorem frm_of {S : Int → Prop} {b h n : Int} {t : PS} (q : SPM S b h 0 n t) (h0 : 0 ≤ h) (hh : n ≤ h) : FRM8 S b t := ⟨_, bfe_of q.2.2 h0 rfl q.1.2.2 hh, q.2.1, q.1.1⟩
def FRQM (xx : Nat) (S : Int → Prop) (a b n c : Int) (t : PS) : Prop := ∃ σ, BFE S b σ ∧ BFI S σ ∧ (∀ c : Nat, c < 128 → iC t 404 c = σ.1 c) ∧ σ.1 a.toNat = n - 1 ∧ PTS σ.1 a (fun k => iC t (405 + xx) k) c
theorem frqm_0 {xx : Nat} {S : Int → Prop} {a b n : Int} {t u : PS} (h : FRM8 S b t) (a0 : 0 ≤ a ∧ a ≤ 127) (hn : iC t 404 a.toNat = n - 1) (h1 : SAM 404 t u) (h2 : iC u (405 + xx) 0 = a) : FRQM xx S a b n 1 u := by
  obtain ⟨σ, s1, s2, s3⟩ := h
  exact ⟨σ, s1, s2, fun c hc => (h1 c).trans (s3 c hc), by rw [← s3 _ (by omega)]; exact hn, h2, fun k hk => absurd hk (by omega)⟩
theorem frqm_ex {xx : Nat} {S : Int → Prop} {a b n c : Int} {t : PS} (h : FRQM xx S a b n c t) (a0 : 0 ≤ a ∧ a ≤ 127) (c0 : 1 ≤ c ∧ c < n) : ∃ e : Int, adjT (iC t (405 + xx) (c - 1).toNat) e ∧ (fun c => iC t 404 c) e.toNat = (fun c => iC t 404 c) (iC t (405 + xx) (c - 1).toNat).toNat - 1 := by
  obtain ⟨σ, s1, s2, s3, s4, s5⟩ := h
  have r := pts_r s5 a0 (c - 1).toNat (by omega)
  replace r : 0 ≤ iC t (405 + xx) (c - 1).toNat ∧ iC t (405 + xx) (c - 1).toNat ≤ 127 := r
  have ff : ∀ k : Nat, (k : Int) < c → σ.1 (iC t (405 + xx) k).toNat = n - 1 - (k : Int) := fun k hk => by
    induction k with
    | zero =>
      have z : iC t (405 + xx) 0 = a := s5.1
      rw [z, s4]; omega
    | succ k ih =>
      have z := (s5.2 k (by omega)).2.1
      replace z : σ.1 (iC t (405 + xx) (k + 1)).toNat = σ.1 (iC t (405 + xx) k).toNat - 1 := z
      rw [z, ih (by omega)]; omega
  have f := ff (c - 1).toNat (by omega)
  obtain ⟨e, e1, e2⟩ := s2.2.1 (iC t (405 + xx) (c - 1).toNat).toNat (by omega) (by omega)
  rw [show (((iC t (405 + xx) (c - 1).toNat).toNat : Nat) : Int) = iC t (405 + xx) (c - 1).toNat by omega] at e1
  have r2 := adj_rng e1 r.1 r.2
  refine ⟨e, e1, ?_⟩
  show iC t 404 e.toNat = iC t 404 (iC t (405 + xx) (c - 1).toNat).toNat - 1
  rw [s3 _ (by omega), s3 _ (by omega)]; exact e2
theorem frqm_up {xx : Nat} {S : Int → Prop} {a b n c d : Int} {t u : PS} (h : FRQM xx S a b n c t) (a0 : 0 ≤ a ∧ a ≤ 127) (c0 : 1 ≤ c ∧ c < n) (hd : NRP (fun c => iC t 404 c) (iC t (405 + xx) (c - 1).toNat) d) (h1 : SAM 404 t u) (h2 : UPD (405 + xx) c d t u) : FRQM xx S a b n (c + 1) u := by
  obtain ⟨σ, s1, s2, s3, s4, s5⟩ := h
  have r := pts_r s5 a0 (c - 1).toNat (by omega)
  replace r : 0 ≤ iC t (405 + xx) (c - 1).toNat ∧ iC t (405 + xx) (c - 1).toNat ≤ 127 := r
  have hd' := nrp_c hd r s3
  refine ⟨σ, s1, s2, fun c hc => (h1 c).trans (s3 c hc), s4, ?_, fun k hk => ?_⟩
  · show iC u (405 + xx) 0 = a
    rw [h2.2 0 (by omega)]; exact s5.1
  · show NRP σ.1 (iC u (405 + xx) k) (iC u (405 + xx) (k + 1))
    by_cases z : k + 1 = c.toNat
    · rw [z, h2.1, h2.2 k (by omega), show k = (c - 1).toNat by omega]; exact hd'
    · rw [h2.2 k (by omega), h2.2 (k + 1) z]; exact s5.2 k (by omega)
theorem frqm_e {xx : Nat} {S : Int → Prop} {a b n c : Int} {t : PS} (h : FRQM xx S a b n c t) (n0 : 1 ≤ n ∧ n ≤ 24) (hc : c = n) (ha : ¬ S a) (hb : ¬ S b) : RNR S a b n (fun k => iC t (405 + xx) k) := by
  subst hc
  obtain ⟨σ, s1, s2, s3, s4, s5⟩ := h
  exact Or.inr ⟨n0, ⟨ha, hb⟩, σ, s1, s4, s5⟩
theorem frm_no {S : Int → Prop} {a b : Int} {t : PS} {p : Nat → Int} (h : FRM8 S b t) (a0 : 0 ≤ a ∧ a ≤ 127) (hn : iC t 404 a.toNat < 0 ∨ 23 < iC t 404 a.toNat) : RNR S a b 0 p := by
  obtain ⟨σ, s1, s2, s3⟩ := h
  rw [s3 _ (by omega)] at hn
  exact Or.inl ⟨rfl, Or.inr (Or.inr ⟨σ, s1, hn⟩)⟩
theorem frm_r {S : Int → Prop} {b : Int} {t : PS} (h : FRM8 S b t) {c : Nat} (hc : c < 128) : -1 ≤ iC t 404 c ∧ iC t 404 c ≤ 127 := by
  obtain ⟨σ, s1, s2, s3⟩ := h
  rw [s3 c hc]
  have a := s2.2.2.2.1 c hc
  have d := s2.2.2.2.2
  by_cases z : σ.1 c = -1
  · rw [z]; decide
  · have y := (s2.1 c hc z).2
    omega
theorem frqm_s {xx : Nat} {S : Int → Prop} {a b n c : Int} {t : PS} (h : FRQM xx S a b n c t) (hr : 0 ≤ iC t (405 + xx) (c - 1).toNat ∧ iC t (405 + xx) (c - 1).toNat ≤ 127) (hv : 1 ≤ iC t 404 (iC t (405 + xx) (c - 1).toNat).toNat) : ∀ d : Int, adjT (iC t (405 + xx) (c - 1).toNat) d → (fun c => iC t 404 c) d.toNat = (fun c => iC t 404 c) (iC t (405 + xx) (c - 1).toNat).toNat - 1 → ¬ S d := fun d hd hf => by
  replace hf : iC t 404 d.toNat = iC t 404 (iC t (405 + xx) (c - 1).toNat).toNat - 1 := hf
  obtain ⟨σ, s1, s2, s3, s4, s5⟩ := h
  have r2 := adj_rng hd hr.1 hr.2
  have z := (s2.1 d.toNat (by omega) (by rw [← s3 _ (by omega)]; omega)).1
  rw [show ((d.toNat : Nat) : Int) = d by omega] at z
  exact z
section M87kz
variable {l : Launch} {s0 : State} {D : va_G} {tys : List (ClassId × FieldType)} {a0 : Array Value} {A : Nat → Nat} {dT : Nat → ClassId} {s : PS}
set_option maxRecDepth 4000 in
theorem k_isHit9 (G : GX l s0 D tys a0 dT) {U : AirD} (I : Bd s) (jMDJ : MDJ U s) {x y : Int} (p0 : 0 ≤ x ∧ x < iI s 90) (p1 : 0 ≤ y ∧ y ≤ 23) : CT l s0 D A dT 280 (rmN 280) [.ref (A 179), .int (Int32.ofInt x), .int (Int32.ofInt y)] s (fun o t => Bd t ∧ Fm [] [] s t ∧ ∃ e, o = .inl (some (.int (Int32.ofInt e))) ∧ rng e ∧ ((e = 1 ∧ hitP U (stM s) (y : Int).toNat (x : Int).toNat) ∨ (e = 0 ∧ ¬ hitP U (stM s) (y : Int).toNat (x : Int).toNat))) := by
  refine ct_of G (by decide) (Nat.le_of_ble_eq_true rfl) (fun k X E hRt hXt q => ?_)
  show WS k 0 [(0, .ref (A 179)), (1, .int (Int32.ofInt x)), (2, .int (Int32.ofInt y))] [] _ 0 0
  have F : Fm [] [] s s := fm_rf _ _ s
  have hst9 := jMDJ.1
  have hw1 : iC s 162 (x : Int).toNat = (uW U).2 (x : Int).toNat := (jMDJ.2.1 (x : Int).toNat (by omega)).1
  have hw2 := (jMDJ.2.2.1 (x : Int).toNat (by omega)).1
  have L5 : ∀ (n : Nat) (t : PS) (xv yv iv c : Int), Bd t → Fm [] [] s t → MDJ U t → (VHQ (stM s) ((uW U).1 (x : Int).toNat) c iv) → ((xv = x ∧ yv = y) ∧ (0 ≤ x ∧ x ≤ 11) ∧ (0 ≤ y ∧ y ≤ 23) ∧ (iv = 0 ∨ iv = 1) ∧ (0 ≤ c ∧ c ≤ iC s 162 (x : Int).toNat) ∧ iC s 162 (x : Int).toNat ≤ 24) → (24 - c : Int).toNat < n → (∀ (t' : PS) (iv' c' : Int), Bd t' → Fm [] [] s t' → MDJ U t' → (VHQ (stM s) ((uW U).1 (x : Int).toNat) c' iv') → ((xv = x ∧ yv = y) ∧ (0 ≤ x ∧ x ≤ 11) ∧ (0 ≤ y ∧ y ≤ 23) ∧ (iv' = 0 ∨ iv' = 1) ∧ c' = iC s 162 (x : Int).toNat) → WS k 49 [(0, .ref (A 179)), (1, .int (Int32.ofInt xv)), (2, .int (Int32.ofInt yv)), (3, .int (Int32.ofInt iv')), (4, .int (Int32.ofInt c'))] [] (Wd A dT t') 0 0) → WS k 5 [(0, .ref (A 179)), (1, .int (Int32.ofInt xv)), (2, .int (Int32.ofInt yv)), (3, .int (Int32.ofInt iv)), (4, .int (Int32.ofInt c))] [] (Wd A dT t) 0 0 := by
    intro n
    induction n with
    | zero =>
      intro t xv yv iv c I F jjMDJ hq hi hm kx
      exact absurd hm (Nat.not_lt_zero _)
    | succ n ih =>
      intro t xv yv iv c I F jjMDJ hq hi hm kx
      have hmn : iC t 162 (xv : Int).toNat = iC s 162 (x : Int).toNat := by rw [show xv = x by omega]; exact fm_c F List.not_mem_nil
      refine z_load X (x := c) rfl (List.Mem.tail _ (List.Mem.tail _ (List.Mem.tail _ (List.Mem.tail _ (List.Mem.head _))))) (z_aload_n X (x := A 179) rfl (List.Mem.head _) (s_getR X 179 rfl (c518_ok rfl) rfl rfl (z_load_n X (x := xv) rfl (List.Mem.tail _ (List.Mem.head _)) (z_ald X 185 rfl (c518_ok rfl) rfl (by first | exact oq_e4757433 hi.1.1 hi.2.1.1 | omega) (show xv < 12 by first | exact oq_210fcd76 hi.1.1 hi.2.1.2 | omega) (cbig_ok rfl) ?_))))
      have b1001 := bc_162 I (show (xv).toNat < 12 by first | exact oq_cba5df33 hi.1.1 hi.2.1.2 | omega)
      refine z_icmp_ge X (t := 49) rfl rfl ⟨by first | exact oq_fa4e5087 hi.2.2.2.2.1.1 | omega, by first | exact oq_403249cf hi.2.2.2.2.1.2 hi.2.2.2.2.2 | omega⟩ (rng_to _) (fun g1002 => ?_) (fun g1002 => ?_)
      ·
        refine WS_pq [0, 1, 2, 3, 4] (lv' := [(0, .ref (A 179)), (1, .int (Int32.ofInt xv)), (2, .int (Int32.ofInt yv)), (3, .int (Int32.ofInt iv)), (4, .int (Int32.ofInt c))]) rfl ?_
        exact kx _ iv c I F jjMDJ hq (by first | exact ⟨And.intro (hi.1.1) (hi.1.2), And.intro (hi.2.1.1) (hi.2.1.2), And.intro (hi.2.2.1.1) (hi.2.2.1.2), hi.2.2.2.1, oq_537ca82a hi.2.2.2.2.1.2 g1002 hmn⟩ | omega)
      ·
        refine z_load_n X (x := iv) rfl (List.Mem.tail _ (List.Mem.tail _ (List.Mem.tail _ (List.Mem.head _)))) (z_if_ne X (t := 37) rfl rfl ⟨by first | exact oq_bde653e9 hi.2.2.2.1 | omega, by first | exact oq_4ad2cb8b hi.2.2.2.1 | omega⟩ (fun g1003 => ?_) (fun g1003 => ?_))
        ·
          refine z_const X rfl (z_goto X (t := 42) rfl rfl (z_store_n X (lv' := [(3, .int (Int32.ofInt 1)), (0, .ref (A 179)), (1, .int (Int32.ofInt xv)), (2, .int (Int32.ofInt yv)), (4, .int (Int32.ofInt c))]) rfl (by decide) (fun _ h => h) (z_inc X (x := c) (lv' := [(4, .int (Int32.ofInt (c + 1))), (3, .int (Int32.ofInt 1)), (0, .ref (A 179)), (1, .int (Int32.ofInt xv)), (2, .int (Int32.ofInt yv))]) rfl (by decide) (List.Mem.tail _ (List.Mem.tail _ (List.Mem.tail _ (List.Mem.tail _ (List.Mem.head _))))) (fun _ h => h) (z_goto X (t := 5) rfl rfl (WS_pq [2, 3, 4, 1, 0] (lv' := [(0, .ref (A 179)), (1, .int (Int32.ofInt xv)), (2, .int (Int32.ofInt yv)), (3, .int (Int32.ofInt 1)), (4, .int (Int32.ofInt (c + 1)))]) rfl ?_)))))
          exact ih _ xv yv 1 (c + 1) I F jjMDJ (vhq_1 hq (by first | (clear g1003; omega) | omega)) (by first | exact ⟨And.intro (hi.1.1) (hi.1.2), And.intro (hi.2.1.1) (hi.2.1.2), And.intro (hi.2.2.1.1) (hi.2.2.1.2), Or.inr (by decide), And.intro (oq_54f49eb5 hi.2.2.2.2.1.1) (oq_8a89b3ae g1002 hmn), hi.2.2.2.2.2⟩ | omega) (by first | exact qk_me hm (by decide) (oq_9dea93e6 g1002 b1001.2) | omega) kx
        ·
          refine z_aload_n X (x := A 179) rfl (List.Mem.head _) (s_getR X 179 rfl (c518_ok rfl) rfl rfl (z_aload_n X (x := A 179) rfl (List.Mem.head _) (s_getR X 179 rfl (c518_ok rfl) rfl rfl (z_load_n X (x := xv) rfl (List.Mem.tail _ (List.Mem.head _)) (z_aald X rw_189 rfl (by first | exact oq_e4757433 hi.1.1 hi.2.1.1 | omega) (show xv < 12 by first | exact oq_210fcd76 hi.1.1 hi.2.1.2 | omega) (by decide) (z_load X (x := c) rfl (List.Mem.tail _ (List.Mem.tail _ (List.Mem.tail _ (List.Mem.tail _ (List.Mem.head _))))) (z_ald2 X rw_189 rfl (show (xv : Int).toNat < 12 by first | exact oq_cba5df33 hi.1.1 hi.2.1.2 | omega) (by first | exact hi.2.2.2.2.1.1 | omega) (show c < 24 by first | exact oq_8ff7beb9 g1002 b1001.2 | omega) (by decide) ?_)))))))
          have b1004 : (0 : Int) ≤ (iC t (166 + (xv : Int).toNat) (c : Int).toNat) ∧ (iC t (166 + (xv : Int).toNat) (c : Int).toNat) ≤ 127 := rw_bd rw_189 I (show (xv : Int).toNat < 12 by first | exact oq_cba5df33 hi.1.1 hi.2.1.2 | omega) (show (c : Int).toNat < 24 by first | exact oq_9e668fc9 g1002 b1001.2 | omega)
          refine z_zald X 454 rfl (c518_ok rfl) rfl (by first | exact b1004.1 | omega) (show (iC t (166 + (xv : Int).toNat) (c : Int).toNat) < 128 by first | exact oq_31b2bf10 b1004.2 | omega) (cbig_ok rfl) ?_
          have b1005 := bc_399 I (show ((iC t (166 + (xv : Int).toNat) (c : Int).toNat)).toNat < 128 by first | exact oq_c7f4e9c1 b1004.2 | omega)
          have hS9 : (iC t 399 ((iC t (166 + (xv : Int).toNat) (c : Int).toNat)).toNat) = iC s 399 (((uW U).1 (x : Int).toNat) (c : Int).toNat).toNat := by have z := (jMDJ.2.1 (x : Int).toNat (by omega)).2 (c : Int).toNat (by show _ < iC s 162 (x : Int).toNat; omega); replace z : iC s (166 + (x : Int).toNat) (c : Int).toNat = ((uW U).1 (x : Int).toNat) (c : Int).toNat := z; rw [← z, fm_c F List.not_mem_nil, fm_c F List.not_mem_nil, show xv = x by omega]
          have hr9 := (jMDJ.2.2.1 (x : Int).toNat (by omega)).2.1 (c : Int).toNat (by omega)
          refine z_if_eq X (t := 41) rfl rfl (rng_to _) (fun g1006 => ?_) (fun g1006 => ?_)
          ·
            refine z_const X rfl (z_store_n X (lv' := [(3, .int (Int32.ofInt 0)), (0, .ref (A 179)), (1, .int (Int32.ofInt xv)), (2, .int (Int32.ofInt yv)), (4, .int (Int32.ofInt c))]) rfl (by decide) (fun _ h => h) (z_inc X (x := c) (lv' := [(4, .int (Int32.ofInt (c + 1))), (3, .int (Int32.ofInt 0)), (0, .ref (A 179)), (1, .int (Int32.ofInt xv)), (2, .int (Int32.ofInt yv))]) rfl (by decide) (List.Mem.tail _ (List.Mem.tail _ (List.Mem.tail _ (List.Mem.tail _ (List.Mem.head _))))) (fun _ h => h) (z_goto X (t := 5) rfl rfl (WS_pq [2, 3, 4, 1, 0] (lv' := [(0, .ref (A 179)), (1, .int (Int32.ofInt xv)), (2, .int (Int32.ofInt yv)), (3, .int (Int32.ofInt 0)), (4, .int (Int32.ofInt (c + 1)))]) rfl ?_))))
            exact ih _ xv yv 0 (c + 1) I F jjMDJ (vhq_n hq (by omega) (by omega) (fun w => w.2 (by rw [← hS9]; omega))) (by first | exact ⟨And.intro (hi.1.1) (hi.1.2), And.intro (hi.2.1.1) (hi.2.1.2), And.intro (hi.2.2.1.1) (hi.2.2.1.2), Or.inl (by decide), And.intro (oq_54f49eb5 hi.2.2.2.2.1.1) (oq_8a89b3ae g1002 hmn), hi.2.2.2.2.2⟩ | omega) (by first | exact qk_me hm (by decide) (oq_9dea93e6 g1002 b1001.2) | omega) kx
          ·
            refine z_const X rfl (z_goto X (t := 42) rfl rfl (z_store_n X (lv' := [(3, .int (Int32.ofInt 1)), (0, .ref (A 179)), (1, .int (Int32.ofInt xv)), (2, .int (Int32.ofInt yv)), (4, .int (Int32.ofInt c))]) rfl (by decide) (fun _ h => h) (z_inc X (x := c) (lv' := [(4, .int (Int32.ofInt (c + 1))), (3, .int (Int32.ofInt 1)), (0, .ref (A 179)), (1, .int (Int32.ofInt xv)), (2, .int (Int32.ofInt yv))]) rfl (by decide) (List.Mem.tail _ (List.Mem.tail _ (List.Mem.tail _ (List.Mem.tail _ (List.Mem.head _))))) (fun _ h => h) (z_goto X (t := 5) rfl rfl (WS_pq [2, 3, 4, 1, 0] (lv' := [(0, .ref (A 179)), (1, .int (Int32.ofInt xv)), (2, .int (Int32.ofInt yv)), (3, .int (Int32.ofInt 1)), (4, .int (Int32.ofInt (c + 1)))]) rfl ?_)))))
            exact ih _ xv yv 1 (c + 1) I F jjMDJ (vhq_s (by first | (clear g1006; omega) | omega) ⟨hr9, by rw [← hS9]; omega⟩) (by first | exact ⟨And.intro (hi.1.1) (hi.1.2), And.intro (hi.2.1.1) (hi.2.1.2), And.intro (hi.2.2.1.1) (hi.2.2.1.2), Or.inr (by decide), And.intro (oq_54f49eb5 hi.2.2.2.2.1.1) (oq_8a89b3ae g1002 hmn), hi.2.2.2.2.2⟩ | omega) (by first | exact qk_me hm (by decide) (oq_9dea93e6 g1002 b1001.2) | omega) kx
  refine z_const X rfl (z_store_n X (lv' := [(3, .int (Int32.ofInt 0)), (0, .ref (A 179)), (1, .int (Int32.ofInt x)), (2, .int (Int32.ofInt y))]) rfl (by decide) (fun _ h => h) (z_const X rfl (z_store X (lv' := [(4, .int (Int32.ofInt 0)), (3, .int (Int32.ofInt 0)), (0, .ref (A 179)), (1, .int (Int32.ofInt x)), (2, .int (Int32.ofInt y))]) rfl (by decide) (fun _ h => h) (WS_pq [2, 3, 4, 1, 0] (lv' := [(0, .ref (A 179)), (1, .int (Int32.ofInt x)), (2, .int (Int32.ofInt y)), (3, .int (Int32.ofInt 0)), (4, .int (Int32.ofInt 0))]) rfl (L5 ((24 - 0 : Int).toNat + 1) s x y 0 0 I F jMDJ vhq_0 (by omega) (Nat.lt_succ_self _) ?_)))))
  intro s1 x2 x3 Is1 Fs1 JMDJ_s1 Qs1 hs1
  have hvi := vhq_e (z := (uW U).2 (x : Int).toNat) Qs1 (by omega)
  refine z_load_n X (x := x2) rfl (List.Mem.tail _ (List.Mem.tail _ (List.Mem.tail _ (List.Mem.head _)))) (z_if_eq X (t := 66) rfl rfl ⟨by first | exact oq_bde653e9 hs1.2.2.2.1 | omega, by first | exact oq_4ad2cb8b hs1.2.2.2.1 | omega⟩ (fun g4 => ?_) (fun g4 => ?_))
  ·
    refine z_const X rfl ?_
    exact w_iret X.1 q hRt (nar_ret (by first | exact Or.inl (by decide) | omega)) (ax_d X (show cdA 280 67 = some (.ireturn, 1, 0, 0, 0) from rfl)) (Nat.zero_le _) (Nat.zero_le _) ⟨_, rfl, Is1, Fs1, 0, rfl, (by decide), (Or.inr ⟨rfl, fun w => hvi.elim (fun z => absurd z.1 (by omega)) (fun z => z.2 w.1)⟩)⟩
  ·
    refine z_aload_n X (x := A 179) rfl (List.Mem.head _) (z_load_n X (x := x) rfl (List.Mem.tail _ (List.Mem.head _)) (z_load_n X (x := y) rfl (List.Mem.tail _ (List.Mem.tail _ (List.Mem.head _))) (zcV_i0 X E 179 (As := [.int (Int32.ofInt x), .int (Int32.ofInt y)]) (st := []) rfl rfl rfl rfl (k_mostOf2 G Is1 (by first | exact ⟨hs1.2.1.1, hs1.2.1.2⟩ | omega) (by first | exact ⟨hs1.2.2.1.1, hs1.2.2.1.2⟩ | omega)) rfl (Nat.le_of_ble_eq_true rfl) (fun s5 e6 Is5 Fs5 hrs5 hps5 => ?_))))
    have Gs5 := fm_tq Fs1 Fs5 rfl rfl
    have hmo : e6 = uM U (y : Int).toNat (x : Int).toNat := mo_un (x := x) (q := y) JMDJ_s1 (by first | (clear g4; omega) | omega) (by first | (clear g4; omega) | omega) hps5.2.2
    refine z_if_le X (t := 66) rfl rfl hrs5 (fun g7 => ?_) (fun g7 => ?_)
    ·
      refine z_const X rfl ?_
      exact w_iret X.1 q hRt (nar_ret (by first | exact Or.inl (by decide) | omega)) (ax_d X (show cdA 280 67 = some (.ireturn, 1, 0, 0, 0) from rfl)) (Nat.zero_le _) (Nat.zero_le _) ⟨_, rfl, Is5, Gs5, 0, rfl, (by decide), (Or.inr ⟨rfl, fun w => by have z := w.2; rw [← hmo] at z; omega⟩)⟩
    ·
      refine z_const X rfl (z_goto X (t := 67) rfl rfl ?_)
      exact w_iret X.1 q hRt (nar_ret (by first | exact Or.inr (by decide) | omega)) (ax_d X (show cdA 280 67 = some (.ireturn, 1, 0, 0, 0) from rfl)) (Nat.zero_le _) (Nat.zero_le _) ⟨_, rfl, Is5, Gs5, 1, rfl, (by decide), (Or.inl ⟨rfl, hvi.elim (fun z => z.2) (fun z => absurd z.1 (by first | (clear g4; omega) | omega)), by rw [← hmo]; omega⟩)⟩
set_option maxRecDepth 4000 in
theorem k_findRound9 (G : GX l s0 D tys a0 dT) {U : AirD} (I : Bd s) (jRLx : RLx s) (jMDJ : MDJ U s) {x : Int} (p0 : 0 ≤ x ∧ x < iI s 90) : CT l s0 D A dT 281 (rmN 281) [.ref (A 179), .int (Int32.ofInt x)] s (fun o t => Bd t ∧ Fm [] [403, 404, 232, 405, 406, 407, 408, 409, 410, 411, 412, 413, 414, 415, 416] s t ∧ RLx t ∧ o = .inl none ∧ (RNR (stM s) (fsA U (x : Int).toNat) (lsA U (x : Int).toNat) (iC t 403 (x : Int).toNat) (fun k => iC t (405 + (x : Int).toNat) k) ∧ RKP x s t)) := by
  refine ct_of G (by decide) (Nat.le_of_ble_eq_true rfl) (fun k X E hRt hXt q => ?_)
  show WS k 0 [(0, .ref (A 179)), (1, .int (Int32.ofInt x))] [] _ 0 0
  have F : Fm [] [403, 404, 232, 405, 406, 407, 408, 409, 410, 411, 412, 413, 414, 415, 416] s s := fm_rf _ _ s
  have hst9 := jMDJ.1
  have hw1 : iC s 162 (x : Int).toNat = (uW U).2 (x : Int).toNat := (jMDJ.2.1 (x : Int).toNat (by omega)).1
  have hw2 := (jMDJ.2.2.1 (x : Int).toNat (by omega)).1
  have hfA : 0 ≤ fsA U (x : Int).toNat ∧ fsA U (x : Int).toNat ≤ 127 := (jMDJ.2.2.1 (x : Int).toNat (by omega)).2.1 0 (by omega)
  have b1 := bi_90 I
  have L54 : ∀ (n : Nat) (t : PS) (av bv c : Int), Bd t → Fm [] [403, 404, 232, 405, 406, 407, 408, 409, 410, 411, 412, 413, 414, 415, 416] s t → RLx t → MDJ U t → ((∀ j : Nat, j < 128 → (j : Int) < c → iC t 404 j = -1) ∧ RKP x s t) → ((av = (fsA U (x : Int).toNat) ∧ bv = (lsA U (x : Int).toNat)) ∧ (0 ≤ x ∧ x ≤ 11) ∧ (0 ≤ av ∧ av ≤ 127) ∧ (0 ≤ bv ∧ bv ≤ 127) ∧ 0 ≤ c ∧ c ≤ 128 ∧ iC t 399 (bv).toNat = 0 ∧ iC t 403 (x : Int).toNat = 0) → (128 - c : Int).toNat < n → (∀ (t' : PS) (c' : Int), Bd t' → Fm [] [403, 404, 232, 405, 406, 407, 408, 409, 410, 411, 412, 413, 414, 415, 416] s t' → RLx t' → MDJ U t' → ((∀ j : Nat, j < 128 → (j : Int) < c' → iC t' 404 j = -1) ∧ RKP x s t') → ((av = (fsA U (x : Int).toNat) ∧ bv = (lsA U (x : Int).toNat)) ∧ (0 ≤ x ∧ x ≤ 11) ∧ (0 ≤ av ∧ av ≤ 127) ∧ (0 ≤ bv ∧ bv ≤ 127) ∧ 128 ≤ c' ∧ iC t' 399 (bv).toNat = 0 ∧ iC t' 403 (x : Int).toNat = 0) → WS k 76 [(0, .ref (A 179)), (1, .int (Int32.ofInt x)), (2, .int (Int32.ofInt av)), (3, .int (Int32.ofInt bv)), (4, .int (Int32.ofInt c'))] [] (Wd A dT t') 0 0) → WS k 54 [(0, .ref (A 179)), (1, .int (Int32.ofInt x)), (2, .int (Int32.ofInt av)), (3, .int (Int32.ofInt bv)), (4, .int (Int32.ofInt c))] [] (Wd A dT t) 0 0 := by
    intro n
    induction n with
    | zero =>
      intro t av bv c I F jjRLx jjMDJ hq hi hm kx
      exact absurd hm (Nat.not_lt_zero _)
    | succ n ih =>
      intro t av bv c I F jjRLx jjMDJ hq hi hm kx
      have b1001 := bi_90 I
      refine z_load X (x := c) rfl (List.Mem.tail _ (List.Mem.tail _ (List.Mem.tail _ (List.Mem.tail _ (List.Mem.head _))))) (z_sipush X rfl (z_icmp_ge X (t := 76) rfl rfl ⟨by first | exact oq_fa4e5087 hi.2.2.2.2.1 | omega, by first | exact oq_4ee82282 hi.2.2.2.2.2.1 | omega⟩ (by decide) (fun g1002 => ?_) (fun g1002 => ?_)))
      ·
        refine WS_pq [0, 1, 2, 3, 4] (lv' := [(0, .ref (A 179)), (1, .int (Int32.ofInt x)), (2, .int (Int32.ofInt av)), (3, .int (Int32.ofInt bv)), (4, .int (Int32.ofInt c))]) rfl ?_
        exact kx _ c I F jjRLx jjMDJ hq (by first | exact ⟨And.intro (hi.1.1) (hi.1.2), And.intro (hi.2.1.1) (hi.2.1.2), And.intro (hi.2.2.1.1) (hi.2.2.1.2), And.intro (hi.2.2.2.1.1) (hi.2.2.2.1.2), g1002, hi.2.2.2.2.2.2.1, hi.2.2.2.2.2.2.2⟩ | omega)
      ·
        refine z_aload_n X (x := A 179) rfl (List.Mem.head _) (s_getR X 179 rfl (c518_ok rfl) rfl rfl (z_load X (x := c) rfl (List.Mem.tail _ (List.Mem.tail _ (List.Mem.tail _ (List.Mem.tail _ (List.Mem.head _))))) (z_const X rfl (z_ast X 459 rfl (c518_ok rfl) rfl (by first | exact hi.2.2.2.2.1 | omega) (show c < 128 by first | exact g1002 | omega) (cbig_ok rfl) (wd_gen (fun s1003 hs1003 => ?_))))))
        have Is1003 : Bd s1003 := eqB hs1003 (bd_C I (show ((-1) : Int) ≤ (-1) ∧ (-1) ≤ 127 by first | exact ⟨by decide, by decide⟩ | omega) (by decide))
        have Fs1003 := eqF hs1003 (fm_C F (inl_ok (a := 404) rfl))
        have ws1003_90 : iI s1003 90 = iI t 90 := eqI hs1003 rfl
        have cw1004 : iC s1003 399 (bv).toNat = iC t 399 (bv).toNat := eqC hs1003 (iC_a (by omega))
        have cw1005 : iC s1003 403 (x).toNat = iC t 403 (x).toNat := eqC hs1003 (iC_a (by omega))
        have fs1003 : Fm [] [404] t s1003 := by rw [hs1003]; exact fm_C (fm_rf _ _ _) (show 404 ∈ _ by decide)
        have JRLx_s1003 : RLx s1003 := RLx_fm fs1003 (by decide) jjRLx
        have JMDJ_s1003 : MDJ U s1003 := MDJ_fm fs1003 (by decide) jjMDJ
        refine z_inc X (x := c) (lv' := [(4, .int (Int32.ofInt (c + 1))), (0, .ref (A 179)), (1, .int (Int32.ofInt x)), (2, .int (Int32.ofInt av)), (3, .int (Int32.ofInt bv))]) rfl (by decide) (List.Mem.tail _ (List.Mem.tail _ (List.Mem.tail _ (List.Mem.tail _ (List.Mem.head _))))) (fun _ h => h) (z_goto X (t := 54) rfl rfl (WS_pq [1, 2, 3, 4, 0] (lv' := [(0, .ref (A 179)), (1, .int (Int32.ofInt x)), (2, .int (Int32.ofInt av)), (3, .int (Int32.ofInt bv)), (4, .int (Int32.ofInt (c + 1)))]) rfl ?_))
        have hZ1006 : ∀ j : Nat, j < 128 → (j : Int) < (c + 1) → iC s1003 404 j = -1 := fun j hj h => by
          by_cases e : j = (c : Int).toNat
          · rw [e, hs1003, iC_u ⟨by omega, by omega⟩]
          · rw [hs1003, iC_n e]; exact hq.1 j hj (by omega)
        exact ih _ av bv (c + 1) Is1003 Fs1003 JRLx_s1003 JMDJ_s1003 ⟨hZ1006, rkp_a hq.2 (by decide) hs1003⟩ (by first | exact ⟨And.intro (hi.1.1) (hi.1.2), And.intro (hi.2.1.1) (hi.2.1.2), And.intro (hi.2.2.1.1) (hi.2.2.1.2), And.intro (hi.2.2.2.1.1) (hi.2.2.2.1.2), oq_54f49eb5 hi.2.2.2.2.1, oq_d2afb425 g1002, oq_e5e5d3d6 cw1004 hi.2.2.2.2.2.2.1, oq_e5e5d3d6 cw1005 hi.2.2.2.2.2.2.2⟩ | omega) (by first | exact qk_me hm (by decide) (oq_c268b7bd g1002) | omega) kx
  have L106 : ∀ (n : Nat) (t : PS) (av bv m0 ka stp : Int), Bd t → Fm [] [403, 404, 232, 405, 406, 407, 408, 409, 410, 411, 412, 413, 414, 415, 416] s t → RLx t → MDJ U t → (FBx m0 t ∧ SPM (stM s) (lsA U (x : Int).toNat) ka stp m0 t ∧ RKP x s t) → ((av = (fsA U (x : Int).toNat) ∧ bv = (lsA U (x : Int).toNat)) ∧ (0 ≤ x ∧ x ≤ 11) ∧ (0 ≤ av ∧ av ≤ 127) ∧ (0 ≤ bv ∧ bv ≤ 127) ∧ 1 ≤ m0 ∧ m0 ≤ 128 ∧ 0 ≤ ka ∧ ka < m0 ∧ 0 ≤ stp ∧ stp ≤ 6 ∧ iC t 403 (x : Int).toNat = 0) → (6 - stp : Int).toNat < n → (∀ (t' : PS) (m0' stp' : Int), Bd t' → Fm [] [403, 404, 232, 405, 406, 407, 408, 409, 410, 411, 412, 413, 414, 415, 416] s t' → RLx t' → MDJ U t' → (FBx m0' t' ∧ SPM (stM s) (lsA U (x : Int).toNat) ka stp' m0' t' ∧ RKP x s t') → ((av = (fsA U (x : Int).toNat) ∧ bv = (lsA U (x : Int).toNat)) ∧ (0 ≤ x ∧ x ≤ 11) ∧ (0 ≤ av ∧ av ≤ 127) ∧ (0 ≤ bv ∧ bv ≤ 127) ∧ 1 ≤ m0' ∧ m0' ≤ 128 ∧ 0 ≤ ka ∧ ka < m0' ∧ stp' = 6 ∧ iC t' 403 (x : Int).toNat = 0) → WS k 196 [(0, .ref (A 179)), (1, .int (Int32.ofInt x)), (2, .int (Int32.ofInt av)), (3, .int (Int32.ofInt bv)), (4, .int (Int32.ofInt m0')), (5, .int (Int32.ofInt ka)), (6, .int (Int32.ofInt stp'))] [] (Wd A dT t') 0 0) → WS k 106 [(0, .ref (A 179)), (1, .int (Int32.ofInt x)), (2, .int (Int32.ofInt av)), (3, .int (Int32.ofInt bv)), (4, .int (Int32.ofInt m0)), (5, .int (Int32.ofInt ka)), (6, .int (Int32.ofInt stp))] [] (Wd A dT t) 0 0 := by
    intro n
    induction n with
    | zero =>
      intro t av bv m0 ka stp I F jjRLx jjMDJ hq hi hm kx
      exact absurd hm (Nat.not_lt_zero _)
    | succ n ih =>
      intro t av bv m0 ka stp I F jjRLx jjMDJ hq hi hm kx
      have b2001 := bi_90 I
      refine z_load X (x := stp) rfl (List.Mem.tail _ (List.Mem.tail _ (List.Mem.tail _ (List.Mem.tail _ (List.Mem.tail _ (List.Mem.tail _ (List.Mem.head _))))))) (z_bipush X rfl (z_icmp_ge X (t := 196) rfl rfl ⟨by first | exact oq_fa4e5087 hi.2.2.2.2.2.2.2.2.1 | omega, by first | exact oq_b301c3bf hi.2.2.2.2.2.2.2.2.2.1 | omega⟩ (by decide) (fun g2002 => ?_) (fun g2002 => ?_)))
      ·
        refine WS_pq [0, 1, 2, 3, 4, 5, 6] (lv' := [(0, .ref (A 179)), (1, .int (Int32.ofInt x)), (2, .int (Int32.ofInt av)), (3, .int (Int32.ofInt bv)), (4, .int (Int32.ofInt m0)), (5, .int (Int32.ofInt ka)), (6, .int (Int32.ofInt stp))]) rfl ?_
        exact kx _ m0 stp I F jjRLx jjMDJ hq (by first | exact ⟨And.intro (hi.1.1) (hi.1.2), And.intro (hi.2.1.1) (hi.2.1.2), And.intro (hi.2.2.1.1) (hi.2.2.1.2), And.intro (hi.2.2.2.1.1) (hi.2.2.2.1.2), hi.2.2.2.2.1, hi.2.2.2.2.2.1, hi.2.2.2.2.2.2.1, hi.2.2.2.2.2.2.2.1, oq_0dbc568f hi.2.2.2.2.2.2.2.2.2.1 g2002, hi.2.2.2.2.2.2.2.2.2.2⟩ | omega)
      ·
        refine z_aload_n X (x := A 179) rfl (List.Mem.head _) (s_getR X 179 rfl (c518_ok rfl) rfl rfl (z_load X (x := ka) rfl (List.Mem.tail _ (List.Mem.tail _ (List.Mem.tail _ (List.Mem.tail _ (List.Mem.tail _ (List.Mem.head _)))))) (z_ald X 260 rfl (c518_ok rfl) rfl (by first | exact hi.2.2.2.2.2.2.1 | omega) (show ka < 128 by first | exact oq_13b70d5e hi.2.2.2.2.2.2.2.1 hi.2.2.2.2.2.1 | omega) (cbig_ok rfl) ?_)))
        have b2003 := bc_232 I (show (ka).toNat < 128 by first | exact oq_293b3716 hi.2.2.2.2.2.2.2.1 hi.2.2.2.2.2.1 | omega)
        have ar2004 : iC t 232 (ka).toNat = iC t 232 (ka).toNat := (sam_rf (a := 232) (s := t)) _
        refine z_load X (x := stp) rfl (List.Mem.tail _ (List.Mem.tail _ (List.Mem.tail _ (List.Mem.tail _ (List.Mem.tail _ (List.Mem.tail _ (List.Mem.head _))))))) (z_callS X (rm := rmN 190) (As := [.int (Int32.ofInt (iC t 232 (ka).toNat)), .int (Int32.ofInt stp)]) (st := []) rfl rfl (by rw [E.1, E.2.1, E.2.2.1]; exact p_beside G I (by first | exact ⟨b2003.1, b2003.2⟩ | omega) (by first | exact ⟨hi.2.2.2.2.2.2.2.2.1, oq_a4cef127 g2002⟩ | omega)) ⟨by rw [E.2.2.2]; exact (show (rmN 190).frames + 1 ≤ (rmN 281).frames by decide), by rw [E.2.2.2]; exact (show 8 + (mNL (miB 190) + 11) + (rmN 190).locals ≤ (rmN 281).locals by decide), by rw [E.2.2.2]; exact (show 0 + (rmN 190).cells ≤ (rmN 281).cells by decide), by rw [E.2.2.2]; exact (show 0 + (rmN 190).slots ≤ (rmN 281).slots by decide)⟩ (Nat.le_of_ble_eq_true rfl) (fun vv s2005 hq => ?_) (fun ee s2005 hq => ?_))
        rotate_left
        · obtain ⟨rfl, e2006, hv, hrs2005, hps2005⟩ := hq; cases hv
        obtain ⟨rfl, e2006, hv, hrs2005, hps2005⟩ := hq
        have hps2005p := And.intro hps2005.2.1 (hps2005.2.2)
        cases hv
        show WS k 125 [(0, .ref (A 179)), (1, .int (Int32.ofInt x)), (2, .int (Int32.ofInt av)), (3, .int (Int32.ofInt bv)), (4, .int (Int32.ofInt m0)), (5, .int (Int32.ofInt ka)), (6, .int (Int32.ofInt stp))] [.int (Int32.ofInt e2006)] (Wd A dT t) 0 0
        refine z_store X (lv' := [(7, .int (Int32.ofInt e2006)), (0, .ref (A 179)), (1, .int (Int32.ofInt x)), (2, .int (Int32.ofInt av)), (3, .int (Int32.ofInt bv)), (4, .int (Int32.ofInt m0)), (5, .int (Int32.ofInt ka)), (6, .int (Int32.ofInt stp))]) rfl (by decide) (fun _ h => h) ?_
        have hbs : e2006 = besT (iC t 232 (ka : Int).toNat) stp := bes_of hps2005
        refine z_load X (x := e2006) rfl (List.Mem.head _) (z_const X rfl (z_icmp_eq X (t := 190) rfl rfl hrs2005 (by decide) (fun g2007 => ?_) (fun g2007 => ?_)))
        ·
          refine z_inc X (x := stp) (lv' := [(6, .int (Int32.ofInt (stp + 1))), (7, .int (Int32.ofInt e2006)), (0, .ref (A 179)), (1, .int (Int32.ofInt x)), (2, .int (Int32.ofInt av)), (3, .int (Int32.ofInt bv)), (4, .int (Int32.ofInt m0)), (5, .int (Int32.ofInt ka))]) rfl (by decide) (List.Mem.tail _ (List.Mem.tail _ (List.Mem.tail _ (List.Mem.tail _ (List.Mem.tail _ (List.Mem.tail _ (List.Mem.tail _ (List.Mem.head _)))))))) (fun _ h => h) (z_goto X (t := 106) rfl rfl (WS_pq [2, 3, 4, 5, 6, 7, 0] (lv' := [(0, .ref (A 179)), (1, .int (Int32.ofInt x)), (2, .int (Int32.ofInt av)), (3, .int (Int32.ofInt bv)), (4, .int (Int32.ofInt m0)), (5, .int (Int32.ofInt ka)), (6, .int (Int32.ofInt (stp + 1)))]) rfl ?_))
          exact ih _ av bv m0 ka (stp + 1) I F jjRLx jjMDJ ⟨hq.1, spm_n hq.2.1 (by first | (clear hps2005; omega) | omega) (by first | (clear hps2005; omega) | omega) hbs (Or.inl (by first | (clear hps2005; omega) | omega)), hq.2.2⟩ (by first | exact ⟨And.intro (hi.1.1) (hi.1.2), And.intro (hi.2.1.1) (hi.2.1.2), And.intro (hi.2.2.1.1) (hi.2.2.1.2), And.intro (hi.2.2.2.1.1) (hi.2.2.2.1.2), hi.2.2.2.2.1, hi.2.2.2.2.2.1, hi.2.2.2.2.2.2.1, hi.2.2.2.2.2.2.2.1, oq_54f49eb5 hi.2.2.2.2.2.2.2.2.1, oq_5bf54478 g2002, hi.2.2.2.2.2.2.2.2.2.2⟩ | omega) (by first | exact qk_me hm (by decide) (oq_2265a080 g2002) | omega) kx
        ·
          refine z_aload_n X (x := A 179) rfl (List.Mem.tail _ (List.Mem.head _)) (s_getR X 179 rfl (c518_ok rfl) rfl rfl (z_load X (x := e2006) rfl (List.Mem.head _) (z_zald X 454 rfl (c518_ok rfl) rfl (by first | exact oq_7a1025bf g2007 hps2005.2.1 | omega) (show e2006 < 128 by first | exact oq_31b2bf10 hps2005.2.2 | omega) (cbig_ok rfl) ?_)))
          have b2008 := bc_399 I (show (e2006).toNat < 128 by first | exact oq_c7f4e9c1 hps2005.2.2 | omega)
          refine z_if_ne X (t := 190) rfl rfl (rng_to _) (fun g2009 => ?_) (fun g2009 => ?_)
          ·
            refine z_inc X (x := stp) (lv' := [(6, .int (Int32.ofInt (stp + 1))), (7, .int (Int32.ofInt e2006)), (0, .ref (A 179)), (1, .int (Int32.ofInt x)), (2, .int (Int32.ofInt av)), (3, .int (Int32.ofInt bv)), (4, .int (Int32.ofInt m0)), (5, .int (Int32.ofInt ka))]) rfl (by decide) (List.Mem.tail _ (List.Mem.tail _ (List.Mem.tail _ (List.Mem.tail _ (List.Mem.tail _ (List.Mem.tail _ (List.Mem.tail _ (List.Mem.head _)))))))) (fun _ h => h) (z_goto X (t := 106) rfl rfl (WS_pq [2, 3, 4, 5, 6, 7, 0] (lv' := [(0, .ref (A 179)), (1, .int (Int32.ofInt x)), (2, .int (Int32.ofInt av)), (3, .int (Int32.ofInt bv)), (4, .int (Int32.ofInt m0)), (5, .int (Int32.ofInt ka)), (6, .int (Int32.ofInt (stp + 1)))]) rfl ?_))
            exact ih _ av bv m0 ka (stp + 1) I F jjRLx jjMDJ ⟨hq.1, spm_n hq.2.1 (by first | (clear g2009 g2007 hps2005; omega) | (clear g2007 hps2005; omega) | omega) (by first | (clear g2009 g2007 hps2005; omega) | (clear g2007 hps2005; omega) | omega) hbs (Or.inr ⟨by first | (clear g2009 g2007 hps2005; omega) | (clear g2007 hps2005; omega) | omega, by first | (clear g2009 g2007 hps2005; omega) | (clear g2007 hps2005; omega) | omega, Or.inr (Or.inl ⟨by first | (clear g2009 g2007 hps2005; omega) | (clear g2007 hps2005; omega) | omega, by rw [← (fm_c F (by decide) : iC t 399 (e2006 : Int).toNat = iC s 399 (e2006 : Int).toNat)]; omega⟩)⟩), hq.2.2⟩ (by first | exact ⟨And.intro (hi.1.1) (hi.1.2), And.intro (hi.2.1.1) (hi.2.1.2), And.intro (hi.2.2.1.1) (hi.2.2.1.2), And.intro (hi.2.2.2.1.1) (hi.2.2.2.1.2), hi.2.2.2.2.1, hi.2.2.2.2.2.1, hi.2.2.2.2.2.2.1, hi.2.2.2.2.2.2.2.1, oq_54f49eb5 hi.2.2.2.2.2.2.2.2.1, oq_5bf54478 g2002, hi.2.2.2.2.2.2.2.2.2.2⟩ | omega) (by first | exact qk_me hm (by decide) (oq_2265a080 g2002) | omega) kx
          ·
            refine z_aload_n X (x := A 179) rfl (List.Mem.tail _ (List.Mem.head _)) (s_getR X 179 rfl (c518_ok rfl) rfl rfl (z_load X (x := e2006) rfl (List.Mem.head _) (z_ald X 459 rfl (c518_ok rfl) rfl (by first | exact oq_7a1025bf g2007 hps2005.2.1 | omega) (show e2006 < 128 by first | exact oq_31b2bf10 hps2005.2.2 | omega) (cbig_ok rfl) ?_)))
            have b2010 := bc_404 I (show (e2006).toNat < 128 by first | exact oq_c7f4e9c1 hps2005.2.2 | omega)
            have ar2011 : iC t 404 (e2006).toNat = iC t 404 (e2006).toNat := (sam_rf (a := 404) (s := t)) _
            refine z_const X rfl (z_icmp_eq X (t := 157) rfl rfl (rng_to _) (by decide) (fun g2012 => ?_) (fun g2012 => ?_))
            ·
              have hle : m0 ≤ 127 := FB_le hq.1 (d := (e2006 : Int).toNat) (by first | (clear g2007 hps2005; omega) | (clear hps2005; omega) | omega) (by first | (clear g2007 hps2005; omega) | (clear hps2005; omega) | omega)
              have hk1 := (hq.1).2.2.2 (ka : Int).toNat (by first | (clear g2007 hps2005; omega) | (clear hps2005; omega) | omega) (by first | (clear g2007 hps2005; omega) | (clear hps2005; omega) | omega)
              have hk2 : iC t 404 ((iC t 232 (ka : Int).toNat) : Int).toNat ≤ m0 - 1 := (hq.1).2.1 _ (by first | (clear g2007 hps2005; omega) | (clear hps2005; omega) | omega)
              refine z_aload_n X (x := A 179) rfl (List.Mem.tail _ (List.Mem.head _)) (s_getR X 179 rfl (c518_ok rfl) rfl rfl (z_load X (x := e2006) rfl (List.Mem.head _) (z_aload_n X (x := A 179) rfl (List.Mem.tail _ (List.Mem.head _)) (s_getR X 179 rfl (c518_ok rfl) rfl rfl (z_aload_n X (x := A 179) rfl (List.Mem.tail _ (List.Mem.head _)) (s_getR X 179 rfl (c518_ok rfl) rfl rfl (z_load X (x := ka) rfl (List.Mem.tail _ (List.Mem.tail _ (List.Mem.tail _ (List.Mem.tail _ (List.Mem.tail _ (List.Mem.tail _ (List.Mem.head _))))))) (z_ald X 260 rfl (c518_ok rfl) rfl (by first | exact hi.2.2.2.2.2.2.1 | omega) (show ka < 128 by first | exact oq_651c3b68 hi.2.2.2.2.2.2.2.1 hle | omega) (cbig_ok rfl) ?_))))))))
              have b2013 := bc_232 I (show (ka).toNat < 128 by first | exact oq_cf4c286a hi.2.2.2.2.2.2.2.1 hle | omega)
              have ar2014 : iC t 232 (ka).toNat = iC t 232 (ka).toNat := (sam_rf (a := 232) (s := t)) _
              refine z_ald X 459 rfl (c518_ok rfl) rfl (by first | exact b2013.1 | omega) (show (iC t 232 (ka).toNat) < 128 by first | exact oq_31b2bf10 b2013.2 | omega) (cbig_ok rfl) ?_
              have b2015 := bc_404 I (show ((iC t 232 (ka).toNat)).toNat < 128 by first | exact oq_c7f4e9c1 b2013.2 | omega)
              have ar2016 : iC t 404 ((iC t 232 (ka).toNat)).toNat = iC t 404 ((iC t 232 (ka).toNat)).toNat := (sam_rf (a := 404) (s := t)) _
              refine z_const X rfl (z_add X rfl (z_ast X 459 rfl (c518_ok rfl) rfl (by first | exact oq_7a1025bf g2007 hps2005.2.1 | omega) (show e2006 < 128 by first | exact oq_31b2bf10 hps2005.2.2 | omega) (cbig_ok rfl) (wd_gen (fun s2017 hs2017 => ?_))))
              have Is2017 : Bd s2017 := eqB hs2017 (bd_C I (show ((-1) : Int) ≤ ((iC t 404 ((iC t 232 (ka).toNat)).toNat) + 1) ∧ ((iC t 404 ((iC t 232 (ka).toNat)).toNat) + 1) ≤ 127 by first | exact ⟨oq_21455124 b2015.1, oq_7b2bae64 hk2 hle⟩ | omega) ⟨by first | exact oq_22f29dd0 b2015.1 | omega, by first | exact oq_3e466f4f b2015.2 | omega⟩)
              have Fs2017 := eqF hs2017 (fm_C F (inl_ok (a := 404) rfl))
              have ws2017_90 : iI s2017 90 = iI t 90 := eqI hs2017 rfl
              have aws2017_404 : UPD 404 (e2006) ((iC t 404 ((iC t 232 (ka).toNat)).toNat) + 1) t s2017 := by rw [hs2017]; exact upd_put (sam_rf (a := 404) (s := t)) ⟨by first | exact oq_22f29dd0 b2015.1 | omega, by first | exact oq_3e466f4f b2015.2 | omega⟩
              have aws2017_232 : SAM 232 t s2017 := by rw [hs2017]; exact sam_C (by decide) (sam_rf (a := 232) (s := t))
              have cw2018 : iC s2017 399 (bv).toNat = iC t 399 (bv).toNat := eqC hs2017 (iC_a (by first | (clear g2007 hps2005; omega) | (clear hps2005; omega) | omega))
              have cw2019 : iC s2017 403 (x).toNat = iC t 403 (x).toNat := eqC hs2017 (iC_a (by first | (clear g2007 hps2005; omega) | (clear hps2005; omega) | omega))
              have fs2017 : Fm [] [404] t s2017 := by rw [hs2017]; exact fm_C (fm_rf _ _ _) (show 404 ∈ _ by decide)
              have JRLx_s2017 : RLx s2017 := RLx_fm fs2017 (by decide) jjRLx
              have JMDJ_s2017 : MDJ U s2017 := MDJ_fm fs2017 (by decide) jjMDJ
              refine z_aload_n X (x := A 179) rfl (List.Mem.tail _ (List.Mem.head _)) (s_getR X 179 rfl (c518_ok rfl) rfl rfl (z_load X (x := m0) rfl (List.Mem.tail _ (List.Mem.tail _ (List.Mem.tail _ (List.Mem.tail _ (List.Mem.tail _ (List.Mem.head _)))))) (z_load X (x := e2006) rfl (List.Mem.head _) (z_ast X 260 rfl (c518_ok rfl) rfl (by first | exact oq_2a6e3b50 hi.2.2.2.2.1 | omega) (show m0 < 128 by first | exact oq_31b2bf10 hle | omega) (cbig_ok rfl) (wd_gen (fun s2020 hs2020 => ?_))))))
              have Is2020 : Bd s2020 := eqB hs2020 (bd_C Is2017 (show (0 : Int) ≤ e2006 ∧ e2006 ≤ 127 by first | exact ⟨oq_7a1025bf g2007 hps2005.2.1, hps2005.2.2⟩ | omega) hrs2005)
              have Fs2020 := eqF hs2020 (fm_C Fs2017 (inl_ok (a := 232) rfl))
              have ws2020_90 : iI s2020 90 = iI s2017 90 := eqI hs2020 rfl
              have aws2020_404 : UPD 404 (e2006) ((iC t 404 ((iC t 232 (ka).toNat)).toNat) + 1) t s2020 := by rw [hs2020]; exact upd_C (by decide) aws2017_404
              have aws2020_232 : UPD 232 (m0) e2006 t s2020 := by rw [hs2020]; exact upd_put aws2017_232 hrs2005
              have cw2021 : iC s2020 399 (bv).toNat = iC s2017 399 (bv).toNat := eqC hs2020 (iC_a (by first | (clear g2007 hps2005; omega) | (clear hps2005; omega) | omega))
              have cw2022 : iC s2020 403 (x).toNat = iC s2017 403 (x).toNat := eqC hs2020 (iC_a (by first | (clear g2007 hps2005; omega) | (clear hps2005; omega) | omega))
              have fs2020 : Fm [] [232] s2017 s2020 := by rw [hs2020]; exact fm_C (fm_rf _ _ _) (show 232 ∈ _ by decide)
              have JRLx_s2020 : RLx s2020 := RLx_fm fs2020 (by decide) JRLx_s2017
              have JMDJ_s2020 : MDJ U s2020 := MDJ_fm fs2020 (by decide) JMDJ_s2017
              have JFBx_s2020 : FBx (m0 + 1) s2020 := FB_up I hq.1 (by first | (clear g2007 hps2005; omega) | (clear hps2005; omega) | omega) (x := (iC t 232 (ka : Int).toNat)) (y := stp) (d := e2006) (by first | (clear g2007 hps2005; omega) | (clear hps2005; omega) | omega) (by first | (clear g2007 hps2005; omega) | (clear hps2005; omega) | omega) (by first | (clear g2007 hps2005; omega) | (clear hps2005; omega) | omega) (by first | (clear g2007 hps2005; omega) | (clear hps2005; omega) | omega) hps2005 hk1.1 hk1.2 hs2017 hs2020
              refine z_inc X (x := m0) (lv' := [(4, .int (Int32.ofInt (m0 + 1))), (7, .int (Int32.ofInt e2006)), (0, .ref (A 179)), (1, .int (Int32.ofInt x)), (2, .int (Int32.ofInt av)), (3, .int (Int32.ofInt bv)), (5, .int (Int32.ofInt ka)), (6, .int (Int32.ofInt stp))]) rfl (by decide) (List.Mem.tail _ (List.Mem.tail _ (List.Mem.tail _ (List.Mem.tail _ (List.Mem.tail _ (List.Mem.head _)))))) (fun _ h => h) (z_inc X (x := stp) (lv' := [(6, .int (Int32.ofInt (stp + 1))), (4, .int (Int32.ofInt (m0 + 1))), (7, .int (Int32.ofInt e2006)), (0, .ref (A 179)), (1, .int (Int32.ofInt x)), (2, .int (Int32.ofInt av)), (3, .int (Int32.ofInt bv)), (5, .int (Int32.ofInt ka))]) rfl (by decide) (List.Mem.tail _ (List.Mem.tail _ (List.Mem.tail _ (List.Mem.tail _ (List.Mem.tail _ (List.Mem.tail _ (List.Mem.tail _ (List.Mem.head _)))))))) (fun _ h => h) (z_goto X (t := 106) rfl rfl (WS_pq [3, 4, 5, 6, 1, 7, 0] (lv' := [(0, .ref (A 179)), (1, .int (Int32.ofInt x)), (2, .int (Int32.ofInt av)), (3, .int (Int32.ofInt bv)), (4, .int (Int32.ofInt (m0 + 1))), (5, .int (Int32.ofInt ka)), (6, .int (Int32.ofInt (stp + 1)))]) rfl ?_)))
              exact ih _ av bv (m0 + 1) ka (stp + 1) Is2020 Fs2020 JRLx_s2020 JMDJ_s2020 ⟨JFBx_s2020, spm_y hq.2.1 (by first | (clear g2007 hps2005; omega) | (clear hps2005; omega) | omega) (by first | (clear g2007 hps2005; omega) | (clear hps2005; omega) | omega) hbs (by first | (clear g2007 hps2005; omega) | (clear hps2005; omega) | omega) (by first | (clear g2007 hps2005; omega) | (clear hps2005; omega) | omega) (fun w => w.2 (by rw [← (fm_c F (by decide) : iC t 399 (e2006 : Int).toNat = iC s 399 (e2006 : Int).toNat)]; omega)) (by first | (clear g2007 hps2005; omega) | (clear hps2005; omega) | omega) (by first | (clear g2007 hps2005; omega) | (clear hps2005; omega) | omega) rfl aws2020_404 aws2020_232, rkp_a (rkp_a hq.2.2 (by decide) hs2017) (by decide) hs2020⟩ (by first | exact ⟨And.intro (hi.1.1) (hi.1.2), And.intro (hi.2.1.1) (hi.2.1.2), And.intro (hi.2.2.1.1) (hi.2.2.1.2), And.intro (hi.2.2.2.1.1) (hi.2.2.2.1.2), oq_1e1a2df6 hi.2.2.2.2.1, oq_e4399267 hle, hi.2.2.2.2.2.2.1, oq_d130ae0d hi.2.2.2.2.2.2.2.1, oq_54f49eb5 hi.2.2.2.2.2.2.2.2.1, oq_5bf54478 g2002, oq_cd9cbf39 cw2022 cw2019 hi.2.2.2.2.2.2.2.2.2.2⟩ | omega) (by first | exact qk_me hm (by decide) (oq_2265a080 g2002) | omega) kx
            ·
              refine z_goto X (t := 190) rfl rfl (z_inc X (x := stp) (lv' := [(6, .int (Int32.ofInt (stp + 1))), (7, .int (Int32.ofInt e2006)), (0, .ref (A 179)), (1, .int (Int32.ofInt x)), (2, .int (Int32.ofInt av)), (3, .int (Int32.ofInt bv)), (4, .int (Int32.ofInt m0)), (5, .int (Int32.ofInt ka))]) rfl (by decide) (List.Mem.tail _ (List.Mem.tail _ (List.Mem.tail _ (List.Mem.tail _ (List.Mem.tail _ (List.Mem.tail _ (List.Mem.tail _ (List.Mem.head _)))))))) (fun _ h => h) (z_goto X (t := 106) rfl rfl (WS_pq [2, 3, 4, 5, 6, 7, 0] (lv' := [(0, .ref (A 179)), (1, .int (Int32.ofInt x)), (2, .int (Int32.ofInt av)), (3, .int (Int32.ofInt bv)), (4, .int (Int32.ofInt m0)), (5, .int (Int32.ofInt ka)), (6, .int (Int32.ofInt (stp + 1)))]) rfl ?_)))
              exact ih _ av bv m0 ka (stp + 1) I F jjRLx jjMDJ ⟨hq.1, spm_n hq.2.1 (by first | (clear g2012 g2007 hps2005; omega) | (clear g2007 hps2005; omega) | omega) (by first | (clear g2012 g2007 hps2005; omega) | (clear g2007 hps2005; omega) | omega) hbs (Or.inr ⟨by first | (clear g2012 g2007 hps2005; omega) | (clear g2007 hps2005; omega) | omega, by first | (clear g2012 g2007 hps2005; omega) | (clear g2007 hps2005; omega) | omega, Or.inl (by first | (clear g2012 g2007 hps2005; omega) | (clear g2007 hps2005; omega) | omega)⟩), hq.2.2⟩ (by first | exact ⟨And.intro (hi.1.1) (hi.1.2), And.intro (hi.2.1.1) (hi.2.1.2), And.intro (hi.2.2.1.1) (hi.2.2.1.2), And.intro (hi.2.2.2.1.1) (hi.2.2.2.1.2), hi.2.2.2.2.1, hi.2.2.2.2.2.1, hi.2.2.2.2.2.2.1, hi.2.2.2.2.2.2.2.1, oq_54f49eb5 hi.2.2.2.2.2.2.2.2.1, oq_5bf54478 g2002, hi.2.2.2.2.2.2.2.2.2.2⟩ | omega) (by first | exact qk_me hm (by decide) (oq_2265a080 g2002) | omega) kx
  have L96 : ∀ (n : Nat) (t : PS) (av bv m0 ka : Int), Bd t → Fm [] [403, 404, 232, 405, 406, 407, 408, 409, 410, 411, 412, 413, 414, 415, 416] s t → RLx t → MDJ U t → (FBx m0 t ∧ SPM (stM s) (lsA U (x : Int).toNat) ka 0 m0 t ∧ RKP x s t) → ((av = (fsA U (x : Int).toNat) ∧ bv = (lsA U (x : Int).toNat)) ∧ (0 ≤ x ∧ x ≤ 11) ∧ (0 ≤ av ∧ av ≤ 127) ∧ (0 ≤ bv ∧ bv ≤ 127) ∧ 1 ≤ m0 ∧ m0 ≤ 128 ∧ 0 ≤ ka ∧ ka ≤ m0 ∧ iC t 403 (x : Int).toNat = 0) → (128 - ka : Int).toNat < n → (∀ (t' : PS) (m0' ka' : Int), Bd t' → Fm [] [403, 404, 232, 405, 406, 407, 408, 409, 410, 411, 412, 413, 414, 415, 416] s t' → RLx t' → MDJ U t' → (FBx m0' t' ∧ SPM (stM s) (lsA U (x : Int).toNat) ka' 0 m0' t' ∧ RKP x s t') → ((av = (fsA U (x : Int).toNat) ∧ bv = (lsA U (x : Int).toNat)) ∧ (0 ≤ x ∧ x ≤ 11) ∧ (0 ≤ av ∧ av ≤ 127) ∧ (0 ≤ bv ∧ bv ≤ 127) ∧ 1 ≤ m0' ∧ m0' ≤ 128 ∧ 0 ≤ ka' ∧ ka' = m0' ∧ iC t' 403 (x : Int).toNat = 0) → WS k 202 [(0, .ref (A 179)), (1, .int (Int32.ofInt x)), (2, .int (Int32.ofInt av)), (3, .int (Int32.ofInt bv)), (4, .int (Int32.ofInt m0')), (5, .int (Int32.ofInt ka'))] [] (Wd A dT t') 0 0) → WS k 96 [(0, .ref (A 179)), (1, .int (Int32.ofInt x)), (2, .int (Int32.ofInt av)), (3, .int (Int32.ofInt bv)), (4, .int (Int32.ofInt m0)), (5, .int (Int32.ofInt ka))] [] (Wd A dT t) 0 0 := by
    intro n
    induction n with
    | zero =>
      intro t av bv m0 ka I F jjRLx jjMDJ hq hi hm kx
      exact absurd hm (Nat.not_lt_zero _)
    | succ n ih =>
      intro t av bv m0 ka I F jjRLx jjMDJ hq hi hm kx
      have b3001 := bi_90 I
      refine z_load X (x := ka) rfl (List.Mem.tail _ (List.Mem.tail _ (List.Mem.tail _ (List.Mem.tail _ (List.Mem.tail _ (List.Mem.head _)))))) (z_load X (x := m0) rfl (List.Mem.tail _ (List.Mem.tail _ (List.Mem.tail _ (List.Mem.tail _ (List.Mem.head _))))) (z_icmp_ge X (t := 202) rfl rfl ⟨by first | exact oq_fa4e5087 hi.2.2.2.2.2.2.1 | omega, by first | exact oq_9eb6cd9c hi.2.2.2.2.2.2.2.1 hi.2.2.2.2.2.1 | omega⟩ ⟨by first | exact oq_9462313e hi.2.2.2.2.1 | omega, by first | exact oq_4ee82282 hi.2.2.2.2.2.1 | omega⟩ (fun g3002 => ?_) (fun g3002 => ?_)))
      ·
        refine WS_pq [0, 1, 2, 3, 4, 5] (lv' := [(0, .ref (A 179)), (1, .int (Int32.ofInt x)), (2, .int (Int32.ofInt av)), (3, .int (Int32.ofInt bv)), (4, .int (Int32.ofInt m0)), (5, .int (Int32.ofInt ka))]) rfl ?_
        exact kx _ m0 ka I F jjRLx jjMDJ hq (by first | exact ⟨And.intro (hi.1.1) (hi.1.2), And.intro (hi.2.1.1) (hi.2.1.2), And.intro (hi.2.2.1.1) (hi.2.2.1.2), And.intro (hi.2.2.2.1.1) (hi.2.2.2.1.2), hi.2.2.2.2.1, hi.2.2.2.2.2.1, hi.2.2.2.2.2.2.1, oq_daa9f991 hi.2.2.2.2.2.2.2.1 g3002, hi.2.2.2.2.2.2.2.2⟩ | omega)
      ·
        refine z_const X rfl (z_store X (lv' := [(6, .int (Int32.ofInt 0)), (0, .ref (A 179)), (1, .int (Int32.ofInt x)), (2, .int (Int32.ofInt av)), (3, .int (Int32.ofInt bv)), (4, .int (Int32.ofInt m0)), (5, .int (Int32.ofInt ka))]) rfl (by decide) (fun _ h => h) (WS_pq [1, 2, 3, 4, 5, 6, 0] (lv' := [(0, .ref (A 179)), (1, .int (Int32.ofInt x)), (2, .int (Int32.ofInt av)), (3, .int (Int32.ofInt bv)), (4, .int (Int32.ofInt m0)), (5, .int (Int32.ofInt ka)), (6, .int (Int32.ofInt 0))]) rfl (L106 ((6 - 0 : Int).toNat + 1) t av bv m0 ka 0 I F jjRLx jjMDJ ⟨hq.1, hq.2⟩ (by first | exact ⟨And.intro (hi.1.1) (hi.1.2), And.intro (hi.2.1.1) (hi.2.1.2), And.intro (hi.2.2.1.1) (hi.2.2.1.2), And.intro (hi.2.2.2.1.1) (hi.2.2.2.1.2), hi.2.2.2.2.1, hi.2.2.2.2.2.1, hi.2.2.2.2.2.2.1, g3002, by decide, by decide, hi.2.2.2.2.2.2.2.2⟩ | omega) (Nat.lt_succ_self _) ?_)))
        intro s3003 x3004 x3005 Is3003 Fs3003 JRLx_s3003 JMDJ_s3003 Qs3003 hs3003
        have b3006 := bi_90 Is3003
        refine z_inc X (x := ka) (lv' := [(5, .int (Int32.ofInt (ka + 1))), (0, .ref (A 179)), (1, .int (Int32.ofInt x)), (2, .int (Int32.ofInt av)), (3, .int (Int32.ofInt bv)), (4, .int (Int32.ofInt x3004)), (6, .int (Int32.ofInt x3005))]) rfl (by decide) (List.Mem.tail _ (List.Mem.tail _ (List.Mem.tail _ (List.Mem.tail _ (List.Mem.tail _ (List.Mem.head _)))))) (fun _ h => h) (z_goto X (t := 96) rfl rfl (WS_pq [1, 2, 3, 4, 5, 0] (lv' := [(0, .ref (A 179)), (1, .int (Int32.ofInt x)), (2, .int (Int32.ofInt av)), (3, .int (Int32.ofInt bv)), (4, .int (Int32.ofInt x3004)), (5, .int (Int32.ofInt (ka + 1)))]) rfl ?_))
        exact ih _ av bv x3004 (ka + 1) Is3003 Fs3003 JRLx_s3003 JMDJ_s3003 ⟨Qs3003.1, spm_nx (m := m0) (by have z := Qs3003.2.1; rw [show x3005 = 6 by omega] at z; exact z) (by omega) hq.2.1.1.2.2 (by omega), Qs3003.2.2⟩ (by first | exact ⟨And.intro (hs3003.1.1) (hs3003.1.2), And.intro (hs3003.2.1.1) (hs3003.2.1.2), And.intro (hs3003.2.2.1.1) (hs3003.2.2.1.2), And.intro (hs3003.2.2.2.1.1) (hs3003.2.2.2.1.2), hs3003.2.2.2.2.1, hs3003.2.2.2.2.2.1, oq_54f49eb5 hs3003.2.2.2.2.2.2.1, oq_afc84a8d hs3003.2.2.2.2.2.2.2.1, hs3003.2.2.2.2.2.2.2.2.2⟩ | omega) (by first | exact qk_me hm (by decide) (oq_3bafc0a8 hs3003.2.2.2.2.2.2.2.1 hs3003.2.2.2.2.2.1) | omega) kx
  have L267 : ∀ (n : Nat) (t : PS) (m0 ka be stp : Int), Bd t → Fm [] [403, 404, 232, 405, 406, 407, 408, 409, 410, 411, 412, 413, 414, 415, 416] s t → RLx t → MDJ U t → (FBx m0 t ∧ NMN9 (stM s) (fun c => iC t 404 c) (iC t (405 + (x : Int).toNat) ((ka - 1) : Int).toNat) be stp ∧ FRQM (x : Int).toNat (stM s) (fsA U (x : Int).toNat) (lsA U (x : Int).toNat) (iC t 403 (x : Int).toNat) ka t ∧ RKP x s t) → ((0 ≤ x ∧ x ≤ 11) ∧ 1 ≤ ka ∧ ka ≤ 24 ∧ 1 ≤ iC t 403 (x : Int).toNat ∧ iC t 403 (x : Int).toNat ≤ 24 ∧ ka ≤ iC t 403 (x : Int).toNat ∧ iC t 404 (iC t (405 + (x : Int).toNat) ((ka - 1) : Int).toNat : Int).toNat = iC t 403 (x : Int).toNat - ka ∧ ka < iC t 403 (x : Int).toNat ∧ (be = -1 ∨ (0 ≤ be ∧ be ≤ 127 ∧ iC t 404 (be : Int).toNat = iC t 404 (iC t (405 + (x : Int).toNat) ((ka - 1) : Int).toNat : Int).toNat - 1)) ∧ 0 ≤ stp ∧ stp ≤ 6) → (6 - stp : Int).toNat < n → (∀ (t' : PS) (be' stp' : Int), Bd t' → Fm [] [403, 404, 232, 405, 406, 407, 408, 409, 410, 411, 412, 413, 414, 415, 416] s t' → RLx t' → MDJ U t' → (FBx m0 t' ∧ NMN9 (stM s) (fun c => iC t' 404 c) (iC t' (405 + (x : Int).toNat) ((ka - 1) : Int).toNat) be' stp' ∧ FRQM (x : Int).toNat (stM s) (fsA U (x : Int).toNat) (lsA U (x : Int).toNat) (iC t' 403 (x : Int).toNat) ka t' ∧ RKP x s t') → ((0 ≤ x ∧ x ≤ 11) ∧ 1 ≤ ka ∧ ka ≤ 24 ∧ 1 ≤ iC t' 403 (x : Int).toNat ∧ iC t' 403 (x : Int).toNat ≤ 24 ∧ ka ≤ iC t' 403 (x : Int).toNat ∧ iC t' 404 (iC t' (405 + (x : Int).toNat) ((ka - 1) : Int).toNat : Int).toNat = iC t' 403 (x : Int).toNat - ka ∧ ka < iC t' 403 (x : Int).toNat ∧ (be' = -1 ∨ (0 ≤ be' ∧ be' ≤ 127 ∧ iC t' 404 (be' : Int).toNat = iC t' 404 (iC t' (405 + (x : Int).toNat) ((ka - 1) : Int).toNat : Int).toNat - 1)) ∧ stp' = 6) → WS k 359 [(0, .ref (A 179)), (1, .int (Int32.ofInt x)), (4, .int (Int32.ofInt m0)), (5, .int (Int32.ofInt ka)), (6, .int (Int32.ofInt be')), (7, .int (Int32.ofInt stp'))] [] (Wd A dT t') 0 0) → WS k 267 [(0, .ref (A 179)), (1, .int (Int32.ofInt x)), (4, .int (Int32.ofInt m0)), (5, .int (Int32.ofInt ka)), (6, .int (Int32.ofInt be)), (7, .int (Int32.ofInt stp))] [] (Wd A dT t) 0 0 := by
    intro n
    induction n with
    | zero =>
      intro t m0 ka be stp I F jjRLx jjMDJ hq hi hm kx
      exact absurd hm (Nat.not_lt_zero _)
    | succ n ih =>
      intro t m0 ka be stp I F jjRLx jjMDJ hq hi hm kx
      have b4001 := bi_90 I
      refine z_load X (x := stp) rfl (List.Mem.tail _ (List.Mem.tail _ (List.Mem.tail _ (List.Mem.tail _ (List.Mem.tail _ (List.Mem.head _)))))) (z_bipush X rfl (z_icmp_ge X (t := 359) rfl rfl ⟨by first | exact oq_fa4e5087 hi.2.2.2.2.2.2.2.2.2.1 | omega, by first | exact oq_b301c3bf hi.2.2.2.2.2.2.2.2.2.2 | omega⟩ (by decide) (fun g4002 => ?_) (fun g4002 => ?_)))
      ·
        refine WS_pq [0, 1, 2, 3, 4, 5] (lv' := [(0, .ref (A 179)), (1, .int (Int32.ofInt x)), (4, .int (Int32.ofInt m0)), (5, .int (Int32.ofInt ka)), (6, .int (Int32.ofInt be)), (7, .int (Int32.ofInt stp))]) rfl ?_
        exact kx _ be stp I F jjRLx jjMDJ hq (by first | exact ⟨And.intro (hi.1.1) (hi.1.2), hi.2.1, hi.2.2.1, hi.2.2.2.1, hi.2.2.2.2.1, hi.2.2.2.2.2.1, hi.2.2.2.2.2.2.1, hi.2.2.2.2.2.2.2.1, hi.2.2.2.2.2.2.2.2.1, oq_0dbc568f hi.2.2.2.2.2.2.2.2.2.2 g4002⟩ | omega)
      ·
        refine z_aload_n X (x := A 179) rfl (List.Mem.head _) (s_getR X 179 rfl (c518_ok rfl) rfl rfl (z_load_n X (x := x) rfl (List.Mem.tail _ (List.Mem.head _)) (z_aald X rw_460 rfl (by first | exact hi.1.1 | omega) (show x < 12 by first | exact oq_0ddfcfee hi.1.2 | omega) (by decide) (z_load X (x := ka) rfl (List.Mem.tail _ (List.Mem.tail _ (List.Mem.tail _ (List.Mem.head _)))) (z_const X rfl (z_sub X rfl (z_ald2 X rw_460 rfl (show (x : Int).toNat < 12 by first | exact oq_9c5fa447 hi.1.2 | omega) (by first | exact oq_02aa5459 hi.2.1 | omega) (show (ka - 1) < 24 by first | exact oq_19cb6f5b hi.2.2.1 | omega) (by decide) ?_)))))))
        have b4003 : (0 : Int) ≤ (iC t (405 + (x : Int).toNat) ((ka - 1) : Int).toNat) ∧ (iC t (405 + (x : Int).toNat) ((ka - 1) : Int).toNat) ≤ 127 := rw_bd rw_460 I (show (x : Int).toNat < 12 by first | exact oq_9c5fa447 hi.1.2 | omega) (show ((ka - 1) : Int).toNat < 24 by first | exact oq_f976b25c hi.2.2.1 | omega)
        refine z_load X (x := stp) rfl (List.Mem.tail _ (List.Mem.tail _ (List.Mem.tail _ (List.Mem.tail _ (List.Mem.tail _ (List.Mem.head _)))))) (z_callS X (rm := rmN 190) (As := [.int (Int32.ofInt (iC t (405 + (x : Int).toNat) ((ka - 1) : Int).toNat)), .int (Int32.ofInt stp)]) (st := []) rfl rfl (by rw [E.1, E.2.1, E.2.2.1]; exact p_beside G I (by first | exact ⟨b4003.1, b4003.2⟩ | omega) (by first | exact ⟨hi.2.2.2.2.2.2.2.2.2.1, oq_a4cef127 g4002⟩ | omega)) ⟨by rw [E.2.2.2]; exact (show (rmN 190).frames + 1 ≤ (rmN 281).frames by decide), by rw [E.2.2.2]; exact (show 8 + (mNL (miB 190) + 11) + (rmN 190).locals ≤ (rmN 281).locals by decide), by rw [E.2.2.2]; exact (show 0 + (rmN 190).cells ≤ (rmN 281).cells by decide), by rw [E.2.2.2]; exact (show 0 + (rmN 190).slots ≤ (rmN 281).slots by decide)⟩ (Nat.le_of_ble_eq_true rfl) (fun vv s4004 hq => ?_) (fun ee s4004 hq => ?_))
        rotate_left
        · obtain ⟨rfl, e4005, hv, hrs4004, hps4004⟩ := hq; cases hv
        obtain ⟨rfl, e4005, hv, hrs4004, hps4004⟩ := hq
        have hps4004p := And.intro hps4004.2.1 (hps4004.2.2)
        cases hv
        show WS k 290 [(0, .ref (A 179)), (1, .int (Int32.ofInt x)), (4, .int (Int32.ofInt m0)), (5, .int (Int32.ofInt ka)), (6, .int (Int32.ofInt be)), (7, .int (Int32.ofInt stp))] [.int (Int32.ofInt e4005)] (Wd A dT t) 0 0
        refine z_store X (lv' := [(8, .int (Int32.ofInt e4005)), (0, .ref (A 179)), (1, .int (Int32.ofInt x)), (4, .int (Int32.ofInt m0)), (5, .int (Int32.ofInt ka)), (6, .int (Int32.ofInt be)), (7, .int (Int32.ofInt stp))]) rfl (by decide) (fun _ h => h) ?_
        have hbs : e4005 = besT (iC t (405 + (x : Int).toNat) ((ka - 1) : Int).toNat) stp := bes_of hps4004
        refine z_load X (x := e4005) rfl (List.Mem.head _) (z_const X rfl (z_icmp_eq X (t := 353) rfl rfl hrs4004 (by decide) (fun g4006 => ?_) (fun g4006 => ?_)))
        ·
          refine z_inc X (x := stp) (lv' := [(7, .int (Int32.ofInt (stp + 1))), (8, .int (Int32.ofInt e4005)), (0, .ref (A 179)), (1, .int (Int32.ofInt x)), (4, .int (Int32.ofInt m0)), (5, .int (Int32.ofInt ka)), (6, .int (Int32.ofInt be))]) rfl (by decide) (List.Mem.tail _ (List.Mem.tail _ (List.Mem.tail _ (List.Mem.tail _ (List.Mem.tail _ (List.Mem.tail _ (List.Mem.head _))))))) (fun _ h => h) (z_goto X (t := 267) rfl rfl (WS_pq [2, 3, 4, 5, 6, 0] (lv' := [(0, .ref (A 179)), (1, .int (Int32.ofInt x)), (4, .int (Int32.ofInt m0)), (5, .int (Int32.ofInt ka)), (6, .int (Int32.ofInt be)), (7, .int (Int32.ofInt (stp + 1)))]) rfl ?_))
          exact ih _ m0 ka be (stp + 1) I F jjRLx jjMDJ ⟨hq.1, nmn9_n hq.2.1 hbs (Or.inl (by first | (clear hps4004; omega) | omega)), hq.2.2⟩ (by first | exact ⟨And.intro (hi.1.1) (hi.1.2), hi.2.1, hi.2.2.1, hi.2.2.2.1, hi.2.2.2.2.1, hi.2.2.2.2.2.1, hi.2.2.2.2.2.2.1, hi.2.2.2.2.2.2.2.1, hi.2.2.2.2.2.2.2.2.1, oq_54f49eb5 hi.2.2.2.2.2.2.2.2.2.1, oq_5bf54478 g4002⟩ | omega) (by first | exact qk_me hm (by decide) (oq_2265a080 g4002) | omega) kx
        ·
          refine z_aload_n X (x := A 179) rfl (List.Mem.tail _ (List.Mem.head _)) (s_getR X 179 rfl (c518_ok rfl) rfl rfl (z_load X (x := e4005) rfl (List.Mem.head _) (z_zald X 454 rfl (c518_ok rfl) rfl (by first | exact oq_7a1025bf g4006 hps4004.2.1 | omega) (show e4005 < 128 by first | exact oq_31b2bf10 hps4004.2.2 | omega) (cbig_ok rfl) ?_)))
          have b4007 := bc_399 I (show (e4005).toNat < 128 by first | exact oq_c7f4e9c1 hps4004.2.2 | omega)
          refine z_if_ne X (t := 353) rfl rfl (rng_to _) (fun g4008 => ?_) (fun g4008 => ?_)
          ·
            refine z_inc X (x := stp) (lv' := [(7, .int (Int32.ofInt (stp + 1))), (8, .int (Int32.ofInt e4005)), (0, .ref (A 179)), (1, .int (Int32.ofInt x)), (4, .int (Int32.ofInt m0)), (5, .int (Int32.ofInt ka)), (6, .int (Int32.ofInt be))]) rfl (by decide) (List.Mem.tail _ (List.Mem.tail _ (List.Mem.tail _ (List.Mem.tail _ (List.Mem.tail _ (List.Mem.tail _ (List.Mem.head _))))))) (fun _ h => h) (z_goto X (t := 267) rfl rfl (WS_pq [2, 3, 4, 5, 6, 0] (lv' := [(0, .ref (A 179)), (1, .int (Int32.ofInt x)), (4, .int (Int32.ofInt m0)), (5, .int (Int32.ofInt ka)), (6, .int (Int32.ofInt be)), (7, .int (Int32.ofInt (stp + 1)))]) rfl ?_))
            exact ih _ m0 ka be (stp + 1) I F jjRLx jjMDJ ⟨hq.1, nmn9_n hq.2.1 hbs (Or.inr (Or.inl ⟨by first | (clear g4008 g4006 hps4004; omega) | (clear g4006 hps4004; omega) | omega, by rw [← (fm_c F (by decide) : iC t 399 (e4005 : Int).toNat = iC s 399 (e4005 : Int).toNat)]; omega⟩)), hq.2.2⟩ (by first | exact ⟨And.intro (hi.1.1) (hi.1.2), hi.2.1, hi.2.2.1, hi.2.2.2.1, hi.2.2.2.2.1, hi.2.2.2.2.2.1, hi.2.2.2.2.2.2.1, hi.2.2.2.2.2.2.2.1, hi.2.2.2.2.2.2.2.2.1, oq_54f49eb5 hi.2.2.2.2.2.2.2.2.2.1, oq_5bf54478 g4002⟩ | omega) (by first | exact qk_me hm (by decide) (oq_2265a080 g4002) | omega) kx
          ·
            refine z_aload_n X (x := A 179) rfl (List.Mem.tail _ (List.Mem.head _)) (s_getR X 179 rfl (c518_ok rfl) rfl rfl (z_load X (x := e4005) rfl (List.Mem.head _) (z_ald X 459 rfl (c518_ok rfl) rfl (by first | exact oq_7a1025bf g4006 hps4004.2.1 | omega) (show e4005 < 128 by first | exact oq_31b2bf10 hps4004.2.2 | omega) (cbig_ok rfl) ?_)))
            have b4009 := bc_404 I (show (e4005).toNat < 128 by first | exact oq_c7f4e9c1 hps4004.2.2 | omega)
            refine z_aload_n X (x := A 179) rfl (List.Mem.tail _ (List.Mem.head _)) (s_getR X 179 rfl (c518_ok rfl) rfl rfl (z_aload_n X (x := A 179) rfl (List.Mem.tail _ (List.Mem.head _)) (s_getR X 179 rfl (c518_ok rfl) rfl rfl (z_load_n X (x := x) rfl (List.Mem.tail _ (List.Mem.tail _ (List.Mem.head _))) (z_aald X rw_460 rfl (by first | exact hi.1.1 | omega) (show x < 12 by first | exact oq_0ddfcfee hi.1.2 | omega) (by decide) (z_load X (x := ka) rfl (List.Mem.tail _ (List.Mem.tail _ (List.Mem.tail _ (List.Mem.tail _ (List.Mem.head _))))) (z_const X rfl (z_sub X rfl (z_ald2 X rw_460 rfl (show (x : Int).toNat < 12 by first | exact oq_9c5fa447 hi.1.2 | omega) (by first | exact oq_02aa5459 hi.2.1 | omega) (show (ka - 1) < 24 by first | exact oq_19cb6f5b hi.2.2.1 | omega) (by decide) ?_)))))))))
            have b4010 : (0 : Int) ≤ (iC t (405 + (x : Int).toNat) ((ka - 1) : Int).toNat) ∧ (iC t (405 + (x : Int).toNat) ((ka - 1) : Int).toNat) ≤ 127 := rw_bd rw_460 I (show (x : Int).toNat < 12 by first | exact oq_9c5fa447 hi.1.2 | omega) (show ((ka - 1) : Int).toNat < 24 by first | exact oq_f976b25c hi.2.2.1 | omega)
            refine z_ald X 459 rfl (c518_ok rfl) rfl (by first | exact b4010.1 | omega) (show (iC t (405 + (x : Int).toNat) ((ka - 1) : Int).toNat) < 128 by first | exact oq_31b2bf10 b4010.2 | omega) (cbig_ok rfl) ?_
            have b4011 := bc_404 I (show ((iC t (405 + (x : Int).toNat) ((ka - 1) : Int).toNat)).toNat < 128 by first | exact oq_c7f4e9c1 b4010.2 | omega)
            refine z_const X rfl (z_sub X rfl (z_icmp_ne X (t := 353) rfl rfl (rng_to _) ⟨by first | exact oq_c8d9aaec b4011.1 | omega, by first | exact oq_cd3b4cc3 b4011.2 | omega⟩ (fun g4012 => ?_) (fun g4012 => ?_)))
            ·
              refine z_inc X (x := stp) (lv' := [(7, .int (Int32.ofInt (stp + 1))), (8, .int (Int32.ofInt e4005)), (0, .ref (A 179)), (1, .int (Int32.ofInt x)), (4, .int (Int32.ofInt m0)), (5, .int (Int32.ofInt ka)), (6, .int (Int32.ofInt be))]) rfl (by decide) (List.Mem.tail _ (List.Mem.tail _ (List.Mem.tail _ (List.Mem.tail _ (List.Mem.tail _ (List.Mem.tail _ (List.Mem.head _))))))) (fun _ h => h) (z_goto X (t := 267) rfl rfl (WS_pq [2, 3, 4, 5, 6, 0] (lv' := [(0, .ref (A 179)), (1, .int (Int32.ofInt x)), (4, .int (Int32.ofInt m0)), (5, .int (Int32.ofInt ka)), (6, .int (Int32.ofInt be)), (7, .int (Int32.ofInt (stp + 1)))]) rfl ?_))
              exact ih _ m0 ka be (stp + 1) I F jjRLx jjMDJ ⟨hq.1, nmn9_n hq.2.1 hbs (Or.inr (Or.inr (Or.inl (by show iC t 404 (e4005 : Int).toNat ≠ iC t 404 (iC t (405 + (x : Int).toNat) ((ka - 1) : Int).toNat).toNat - 1; omega)))), hq.2.2⟩ (by first | exact ⟨And.intro (hi.1.1) (hi.1.2), hi.2.1, hi.2.2.1, hi.2.2.2.1, hi.2.2.2.2.1, hi.2.2.2.2.2.1, hi.2.2.2.2.2.2.1, hi.2.2.2.2.2.2.2.1, hi.2.2.2.2.2.2.2.2.1, oq_54f49eb5 hi.2.2.2.2.2.2.2.2.2.1, oq_5bf54478 g4002⟩ | omega) (by first | exact qk_me hm (by decide) (oq_2265a080 g4002) | omega) kx
            ·
              refine z_load X (x := be) rfl (List.Mem.tail _ (List.Mem.tail _ (List.Mem.tail _ (List.Mem.tail _ (List.Mem.tail _ (List.Mem.head _)))))) (z_const X rfl (z_icmp_eq X (t := 349) rfl rfl ⟨by first | exact oq_4784b16d hi.2.2.2.2.2.2.2.2.1 | omega, by first | exact oq_fd7c26f0 hi.2.2.2.2.2.2.2.2.1 | omega⟩ (by decide) (fun g4013 => ?_) (fun g4013 => ?_)))
              ·
                refine z_load X (x := e4005) rfl (List.Mem.head _) (z_store X (lv' := [(6, .int (Int32.ofInt e4005)), (8, .int (Int32.ofInt e4005)), (0, .ref (A 179)), (1, .int (Int32.ofInt x)), (4, .int (Int32.ofInt m0)), (5, .int (Int32.ofInt ka)), (7, .int (Int32.ofInt stp))]) rfl (by decide) (fun _ h => h) (z_inc X (x := stp) (lv' := [(7, .int (Int32.ofInt (stp + 1))), (6, .int (Int32.ofInt e4005)), (8, .int (Int32.ofInt e4005)), (0, .ref (A 179)), (1, .int (Int32.ofInt x)), (4, .int (Int32.ofInt m0)), (5, .int (Int32.ofInt ka))]) rfl (by decide) (List.Mem.tail _ (List.Mem.tail _ (List.Mem.tail _ (List.Mem.tail _ (List.Mem.tail _ (List.Mem.tail _ (List.Mem.head _))))))) (fun _ h => h) (z_goto X (t := 267) rfl rfl (WS_pq [3, 4, 5, 6, 1, 0] (lv' := [(0, .ref (A 179)), (1, .int (Int32.ofInt x)), (4, .int (Int32.ofInt m0)), (5, .int (Int32.ofInt ka)), (6, .int (Int32.ofInt e4005)), (7, .int (Int32.ofInt (stp + 1)))]) rfl ?_))))
                exact ih _ m0 ka e4005 (stp + 1) I F jjRLx jjMDJ ⟨hq.1, nmn9_y hq.2.1 (by first | (clear g4006 hps4004; omega) | (clear hps4004; omega) | omega) hbs (by first | (clear g4006 hps4004; omega) | (clear hps4004; omega) | omega) (by show iC t 404 (e4005 : Int).toNat = iC t 404 (iC t (405 + (x : Int).toNat) ((ka - 1) : Int).toNat).toNat - 1; omega) (by first | (clear g4006 hps4004; omega) | (clear hps4004; omega) | omega), hq.2.2⟩ (by first | exact ⟨And.intro (hi.1.1) (hi.1.2), hi.2.1, hi.2.2.1, hi.2.2.2.1, hi.2.2.2.2.1, hi.2.2.2.2.2.1, hi.2.2.2.2.2.2.1, hi.2.2.2.2.2.2.2.1, oq_3daf27ff g4012 g4006 hps4004.2.2 hps4004.2.1, oq_54f49eb5 hi.2.2.2.2.2.2.2.2.2.1, oq_5bf54478 g4002⟩ | omega) (by first | exact qk_me hm (by decide) (oq_2265a080 g4002) | omega) kx
              ·
                refine z_load X (x := e4005) rfl (List.Mem.head _) (z_load X (x := be) rfl (List.Mem.tail _ (List.Mem.tail _ (List.Mem.tail _ (List.Mem.tail _ (List.Mem.tail _ (List.Mem.head _)))))) (z_icmp_ge X (t := 353) rfl rfl hrs4004 ⟨by first | exact oq_4784b16d hi.2.2.2.2.2.2.2.2.1 | omega, by first | exact oq_fd7c26f0 hi.2.2.2.2.2.2.2.2.1 | omega⟩ (fun g4014 => ?_) (fun g4014 => ?_)))
                ·
                  refine z_inc X (x := stp) (lv' := [(7, .int (Int32.ofInt (stp + 1))), (8, .int (Int32.ofInt e4005)), (0, .ref (A 179)), (1, .int (Int32.ofInt x)), (4, .int (Int32.ofInt m0)), (5, .int (Int32.ofInt ka)), (6, .int (Int32.ofInt be))]) rfl (by decide) (List.Mem.tail _ (List.Mem.tail _ (List.Mem.tail _ (List.Mem.tail _ (List.Mem.tail _ (List.Mem.tail _ (List.Mem.head _))))))) (fun _ h => h) (z_goto X (t := 267) rfl rfl (WS_pq [2, 3, 4, 5, 6, 0] (lv' := [(0, .ref (A 179)), (1, .int (Int32.ofInt x)), (4, .int (Int32.ofInt m0)), (5, .int (Int32.ofInt ka)), (6, .int (Int32.ofInt be)), (7, .int (Int32.ofInt (stp + 1)))]) rfl ?_))
                  exact ih _ m0 ka be (stp + 1) I F jjRLx jjMDJ ⟨hq.1, nmn9_n hq.2.1 hbs (Or.inr (Or.inr (Or.inr ⟨by first | (clear g4013 g4006 hps4004; omega) | (clear g4006 hps4004; omega) | omega, by first | (clear g4013 g4006 hps4004; omega) | (clear g4006 hps4004; omega) | omega⟩))), hq.2.2⟩ (by first | exact ⟨And.intro (hi.1.1) (hi.1.2), hi.2.1, hi.2.2.1, hi.2.2.2.1, hi.2.2.2.2.1, hi.2.2.2.2.2.1, hi.2.2.2.2.2.2.1, hi.2.2.2.2.2.2.2.1, hi.2.2.2.2.2.2.2.2.1, oq_54f49eb5 hi.2.2.2.2.2.2.2.2.2.1, oq_5bf54478 g4002⟩ | omega) (by first | exact qk_me hm (by decide) (oq_2265a080 g4002) | omega) kx
                ·
                  refine z_load X (x := e4005) rfl (List.Mem.head _) (z_store X (lv' := [(6, .int (Int32.ofInt e4005)), (8, .int (Int32.ofInt e4005)), (0, .ref (A 179)), (1, .int (Int32.ofInt x)), (4, .int (Int32.ofInt m0)), (5, .int (Int32.ofInt ka)), (7, .int (Int32.ofInt stp))]) rfl (by decide) (fun _ h => h) (z_inc X (x := stp) (lv' := [(7, .int (Int32.ofInt (stp + 1))), (6, .int (Int32.ofInt e4005)), (8, .int (Int32.ofInt e4005)), (0, .ref (A 179)), (1, .int (Int32.ofInt x)), (4, .int (Int32.ofInt m0)), (5, .int (Int32.ofInt ka))]) rfl (by decide) (List.Mem.tail _ (List.Mem.tail _ (List.Mem.tail _ (List.Mem.tail _ (List.Mem.tail _ (List.Mem.tail _ (List.Mem.head _))))))) (fun _ h => h) (z_goto X (t := 267) rfl rfl (WS_pq [3, 4, 5, 6, 1, 0] (lv' := [(0, .ref (A 179)), (1, .int (Int32.ofInt x)), (4, .int (Int32.ofInt m0)), (5, .int (Int32.ofInt ka)), (6, .int (Int32.ofInt e4005)), (7, .int (Int32.ofInt (stp + 1)))]) rfl ?_))))
                  exact ih _ m0 ka e4005 (stp + 1) I F jjRLx jjMDJ ⟨hq.1, nmn9_y hq.2.1 (by first | (clear g4013 g4006 hps4004; omega) | (clear g4006 hps4004; omega) | omega) hbs (by first | (clear g4013 g4006 hps4004; omega) | (clear g4006 hps4004; omega) | omega) (by show iC t 404 (e4005 : Int).toNat = iC t 404 (iC t (405 + (x : Int).toNat) ((ka - 1) : Int).toNat).toNat - 1; omega) (by first | (clear g4013 g4006 hps4004; omega) | (clear g4006 hps4004; omega) | omega), hq.2.2⟩ (by first | exact ⟨And.intro (hi.1.1) (hi.1.2), hi.2.1, hi.2.2.1, hi.2.2.2.1, hi.2.2.2.2.1, hi.2.2.2.2.2.1, hi.2.2.2.2.2.2.1, hi.2.2.2.2.2.2.2.1, oq_c3bce87b g4014 g4012 g4006 hps4004.2.1 hi.2.2.2.2.2.2.2.2.1, oq_54f49eb5 hi.2.2.2.2.2.2.2.2.2.1, oq_5bf54478 g4002⟩ | omega) (by first | exact qk_me hm (by decide) (oq_2265a080 g4002) | omega) kx
  have L250 : ∀ (n : Nat) (t : PS) (m0 ka : Int), Bd t → Fm [] [403, 404, 232, 405, 406, 407, 408, 409, 410, 411, 412, 413, 414, 415, 416] s t → RLx t → MDJ U t → (FBx m0 t ∧ FRQM (x : Int).toNat (stM s) (fsA U (x : Int).toNat) (lsA U (x : Int).toNat) (iC t 403 (x : Int).toNat) ka t ∧ RKP x s t) → ((0 ≤ x ∧ x ≤ 11) ∧ 1 ≤ ka ∧ ka ≤ 24 ∧ 1 ≤ iC t 403 (x : Int).toNat ∧ iC t 403 (x : Int).toNat ≤ 24 ∧ ka ≤ iC t 403 (x : Int).toNat ∧ iC t 404 (iC t (405 + (x : Int).toNat) ((ka - 1) : Int).toNat : Int).toNat = iC t 403 (x : Int).toNat - ka) → (24 - ka : Int).toNat < n → (∀ (t' : PS) (ka' : Int), Bd t' → Fm [] [403, 404, 232, 405, 406, 407, 408, 409, 410, 411, 412, 413, 414, 415, 416] s t' → RLx t' → MDJ U t' → (FBx m0 t' ∧ FRQM (x : Int).toNat (stM s) (fsA U (x : Int).toNat) (lsA U (x : Int).toNat) (iC t' 403 (x : Int).toNat) ka' t' ∧ RKP x s t') → ((0 ≤ x ∧ x ≤ 11) ∧ 1 ≤ ka' ∧ ka' ≤ 24 ∧ 1 ≤ iC t' 403 (x : Int).toNat ∧ iC t' 403 (x : Int).toNat ≤ 24 ∧ ka' ≤ iC t' 403 (x : Int).toNat ∧ iC t' 404 (iC t' (405 + (x : Int).toNat) ((ka' - 1) : Int).toNat : Int).toNat = iC t' 403 (x : Int).toNat - ka' ∧ ka' = iC t' 403 (x : Int).toNat) → WS k 376 [(0, .ref (A 179)), (1, .int (Int32.ofInt x)), (4, .int (Int32.ofInt m0)), (5, .int (Int32.ofInt ka'))] [] (Wd A dT t') 0 0) → WS k 250 [(0, .ref (A 179)), (1, .int (Int32.ofInt x)), (4, .int (Int32.ofInt m0)), (5, .int (Int32.ofInt ka))] [] (Wd A dT t) 0 0 := by
    intro n
    induction n with
    | zero =>
      intro t m0 ka I F jjRLx jjMDJ hq hi hm kx
      exact absurd hm (Nat.not_lt_zero _)
    | succ n ih =>
      intro t m0 ka I F jjRLx jjMDJ hq hi hm kx
      have b5001 := bi_90 I
      refine z_load X (x := ka) rfl (List.Mem.tail _ (List.Mem.tail _ (List.Mem.tail _ (List.Mem.head _)))) (z_aload_n X (x := A 179) rfl (List.Mem.head _) (s_getR X 179 rfl (c518_ok rfl) rfl rfl (z_load_n X (x := x) rfl (List.Mem.tail _ (List.Mem.head _)) (z_ald X 458 rfl (c518_ok rfl) rfl (by first | exact hi.1.1 | omega) (show x < 12 by first | exact oq_0ddfcfee hi.1.2 | omega) (cbig_ok rfl) ?_))))
      have b5002 := bc_403 I (show (x).toNat < 12 by first | exact oq_9c5fa447 hi.1.2 | omega)
      refine z_icmp_ge X (t := 376) rfl rfl ⟨by first | exact oq_9462313e hi.2.1 | omega, by first | exact oq_5bcd337f hi.2.2.1 | omega⟩ (rng_to _) (fun g5003 => ?_) (fun g5003 => ?_)
      ·
        refine WS_pq [0, 1, 2, 3] (lv' := [(0, .ref (A 179)), (1, .int (Int32.ofInt x)), (4, .int (Int32.ofInt m0)), (5, .int (Int32.ofInt ka))]) rfl ?_
        exact kx _ ka I F jjRLx jjMDJ hq (by first | exact ⟨And.intro (hi.1.1) (hi.1.2), hi.2.1, hi.2.2.1, hi.2.2.2.1, b5002.2, hi.2.2.2.2.2.1, hi.2.2.2.2.2.2, oq_daa9f991 hi.2.2.2.2.2.1 g5003⟩ | omega)
      ·
        refine z_const X rfl (z_store X (lv' := [(6, .int (Int32.ofInt (-1))), (0, .ref (A 179)), (1, .int (Int32.ofInt x)), (4, .int (Int32.ofInt m0)), (5, .int (Int32.ofInt ka))]) rfl (by decide) (fun _ h => h) (z_const X rfl (z_store X (lv' := [(7, .int (Int32.ofInt 0)), (6, .int (Int32.ofInt (-1))), (0, .ref (A 179)), (1, .int (Int32.ofInt x)), (4, .int (Int32.ofInt m0)), (5, .int (Int32.ofInt ka))]) rfl (by decide) (fun _ h => h) (WS_pq [2, 3, 4, 5, 1, 0] (lv' := [(0, .ref (A 179)), (1, .int (Int32.ofInt x)), (4, .int (Int32.ofInt m0)), (5, .int (Int32.ofInt ka)), (6, .int (Int32.ofInt (-1))), (7, .int (Int32.ofInt 0))]) rfl (L267 ((6 - 0 : Int).toNat + 1) t m0 ka (-1) 0 I F jjRLx jjMDJ ⟨hq.1, nmn9_0, hq.2⟩ (by first | exact ⟨And.intro (hi.1.1) (hi.1.2), hi.2.1, hi.2.2.1, hi.2.2.2.1, b5002.2, hi.2.2.2.2.2.1, hi.2.2.2.2.2.2, g5003, Or.inl (by decide), by decide, by decide⟩ | omega) (Nat.lt_succ_self _) ?_)))))
        intro s5004 x5005 x5006 Is5004 Fs5004 JRLx_s5004 JMDJ_s5004 Qs5004 hs5004
        have b5007 := bi_90 Is5004
        have hpv : 0 ≤ iC s5004 (405 + (x : Int).toNat) ((ka - 1) : Int).toNat ∧ iC s5004 (405 + (x : Int).toNat) ((ka - 1) : Int).toNat ≤ 127 := rw_bd rw_460 Is5004 (show (x : Int).toNat < 12 by omega) (show ((ka - 1) : Int).toNat < 24 by omega)
        have hNR : NRP (fun c => iC s5004 404 c) (iC s5004 (405 + (x : Int).toNat) ((ka - 1) : Int).toNat) x5005 := nmn9_e (by have z := Qs5004.2.1; rw [show x5006 = 6 by omega] at z; exact z) (frqm_ex Qs5004.2.2.1 (by omega) (by omega)) (frqm_s Qs5004.2.2.1 hpv (by omega))
        have hne : x5005 ≠ -1 := by obtain ⟨g, _, _, _, g4⟩ := hNR.1; exact g4
        refine z_aload_n X (x := A 179) rfl (List.Mem.head _) (s_getR X 179 rfl (c518_ok rfl) rfl rfl (z_load_n X (x := x) rfl (List.Mem.tail _ (List.Mem.head _)) (z_aald X rw_460 rfl (by first | exact hs5004.1.1 | omega) (show x < 12 by first | exact oq_0ddfcfee hs5004.1.2 | omega) (by decide) (z_load X (x := ka) rfl (List.Mem.tail _ (List.Mem.tail _ (List.Mem.tail _ (List.Mem.head _)))) (z_load X (x := x5005) rfl (List.Mem.tail _ (List.Mem.tail _ (List.Mem.tail _ (List.Mem.tail _ (List.Mem.head _))))) (z_ast2 X rw_460 rfl (show (x : Int).toNat < 12 by first | exact oq_9c5fa447 hs5004.1.2 | omega) (by first | exact oq_2a6e3b50 hs5004.2.1 | omega) (show ka < 24 by first | exact oq_8ff7beb9 hs5004.2.2.2.2.2.2.2.1 hs5004.2.2.2.2.1 | omega) (by decide) (wd_gen (fun s5008 hs5008 => ?_))))))))
        have Is5008 : Bd s5008 := eqB hs5008 (rw_st rw_460 Is5004 (show (x : Int).toNat < 12 by first | exact oq_9c5fa447 hs5004.1.2 | omega) (show (0 : Int) ≤ x5005 ∧ x5005 ≤ 127 by first | exact ⟨oq_beac6eee hne hs5004.2.2.2.2.2.2.2.2.1, oq_df3a814e hs5004.2.2.2.2.2.2.2.2.1⟩ | omega) ⟨by first | exact oq_4784b16d hs5004.2.2.2.2.2.2.2.2.1 | omega, by first | exact oq_fd7c26f0 hs5004.2.2.2.2.2.2.2.2.1 | omega⟩)
        have Fs5008 := eqF hs5008 (fm_C (i := (ka : Int).toNat) (x := Int32.ofInt x5005) Fs5004 ((show ∀ j, j < 12 → 405 + j ∈ _ by decide) (x : Int).toNat (by first | exact oq_9c5fa447 hs5004.1.2 | omega)))
        have ws5008_90 : iI s5008 90 = iI s5004 90 := eqI hs5008 rfl
        have cw5009 : iC s5008 403 (x).toNat = iC s5004 403 (x).toNat := eqC hs5008 (iC_a (by omega))
        have fs5008 : Fm [] [405, 406, 407, 408, 409, 410, 411, 412, 413, 414, 415, 416] s5004 s5008 := by rw [hs5008]; exact fm_C (fm_rf _ _ _) ((show ∀ j, j < 12 → 405 + j ∈ _ by decide) (x : Int).toNat (by first | exact oq_9c5fa447 hs5004.1.2 | omega))
        have JRLx_s5008 : RLx s5008 := RLx_fm fs5008 (by decide) JRLx_s5004
        have JMDJ_s5008 : MDJ U s5008 := MDJ_fm fs5008 (by decide) JMDJ_s5004
        have JFBx_s5008 : FBx m0 s5008 := FBx_fm fs5008 (by decide) Qs5004.1
        have p1_s5008 : iC s5008 (405 + (x : Int).toNat) (((ka + 1) - 1) : Int).toNat = x5005 := by rw [show (((ka + 1) - 1) : Int) = ka by omega, hs5008]; exact iC_u ⟨by omega, by omega⟩
        have p2_s5008 : iC s5008 404 (x5005 : Int).toNat = iC s5004 404 (x5005 : Int).toNat := eqC hs5008 (iC_a (by omega))
        have p3_s5008 : iC s5008 403 (x : Int).toNat = iC s5004 403 (x : Int).toNat := eqC hs5008 (iC_a (by omega))
        have p4_s5008 : iC s5008 404 (iC s5008 (405 + (x : Int).toNat) (((ka + 1) - 1) : Int).toNat : Int).toNat = iC s5008 403 (x : Int).toNat - (ka + 1) := by rw [p1_s5008, p2_s5008, p3_s5008]; omega
        refine z_inc X (x := ka) (lv' := [(5, .int (Int32.ofInt (ka + 1))), (0, .ref (A 179)), (1, .int (Int32.ofInt x)), (4, .int (Int32.ofInt m0)), (6, .int (Int32.ofInt x5005)), (7, .int (Int32.ofInt x5006))]) rfl (by decide) (List.Mem.tail _ (List.Mem.tail _ (List.Mem.tail _ (List.Mem.head _)))) (fun _ h => h) (z_goto X (t := 250) rfl rfl (WS_pq [1, 2, 3, 0] (lv' := [(0, .ref (A 179)), (1, .int (Int32.ofInt x)), (4, .int (Int32.ofInt m0)), (5, .int (Int32.ofInt (ka + 1)))]) rfl ?_))
        have hUP : UPD (405 + (x : Int).toNat) ka x5005 s5004 s5008 := ⟨by rw [hs5008]; exact iC_u ⟨by omega, by omega⟩, fun j hj => by rw [hs5008]; exact iC_n hj⟩
        have hRM9 : iC s5008 403 (x : Int).toNat = iC s5004 403 (x : Int).toNat := eqC hs5008 (iC_a (by omega))
        exact ih _ m0 (ka + 1) Is5008 Fs5008 JRLx_s5008 JMDJ_s5008 ⟨JFBx_s5008, by rw [hRM9]; exact frqm_up Qs5004.2.2.1 (by omega) (by omega) hNR (fun j => by rw [hs5008]; exact iC_a (by omega)) hUP, rkp_r Qs5004.2.2.2 hs5008⟩ (by first | exact ⟨And.intro (hs5004.1.1) (hs5004.1.2), oq_1e1a2df6 hs5004.2.1, oq_41473be0 hs5004.2.2.2.2.2.2.2.1 hs5004.2.2.2.2.1, oq_fed65c02 hRM9 hs5004.2.2.2.1, oq_74332778 hRM9 hs5004.2.2.2.2.1, oq_808850b7 hRM9 hs5004.2.2.2.2.2.2.2.1, p4_s5008⟩ | omega) (by first | exact qk_me hm (by decide) (oq_9dea93e6 hs5004.2.2.2.2.2.2.2.1 hs5004.2.2.2.2.1) | omega) kx
  refine z_aload_n X (x := A 179) rfl (List.Mem.head _) (s_getR X 179 rfl (c518_ok rfl) rfl rfl (z_load_n X (x := x) rfl (List.Mem.tail _ (List.Mem.head _)) (z_aald X rw_189 rfl (by first | exact p0.1 | omega) (show x < 12 by first | exact oq_f36e82a8 p0.2 b1.2 | omega) (by decide) (z_const X rfl (z_ald2 X rw_189 rfl (show (x : Int).toNat < 12 by first | exact oq_2dac6850 p0.2 b1.2 | omega) (by decide) (show 0 < 24 by decide) (by decide) ?_)))))
  have b2 : (0 : Int) ≤ (iC s (166 + (x : Int).toNat) (0 : Int).toNat) ∧ (iC s (166 + (x : Int).toNat) (0 : Int).toNat) ≤ 127 := rw_bd rw_189 I (show (x : Int).toNat < 12 by first | exact oq_2dac6850 p0.2 b1.2 | omega) (show (0 : Int).toNat < 24 by first | exact oq_6c1c98ad | omega)
  refine z_store_n X (lv' := [(2, .int (Int32.ofInt (iC s (166 + (x : Int).toNat) (0 : Int).toNat))), (0, .ref (A 179)), (1, .int (Int32.ofInt x))]) rfl (by decide) (fun _ h => h) ?_
  have rl1 := (jRLx (x : Int).toNat (by omega) (by omega)).1
  have hA9 : (iC s (166 + (x : Int).toNat) (0 : Int).toNat) = (fsA U (x : Int).toNat) := by have z := (jMDJ.2.1 (x : Int).toNat (by omega)).2 0 (by show _ < iC s 162 (x : Int).toNat; omega); exact z
  refine z_aload_n X (x := A 179) rfl (List.Mem.tail _ (List.Mem.head _)) (s_getR X 179 rfl (c518_ok rfl) rfl rfl (z_load_n X (x := x) rfl (List.Mem.tail _ (List.Mem.tail _ (List.Mem.head _))) (z_aald X rw_189 rfl (by first | exact p0.1 | omega) (show x < 12 by first | exact oq_f36e82a8 p0.2 b1.2 | omega) (by decide) (z_aload_n X (x := A 179) rfl (List.Mem.tail _ (List.Mem.head _)) (s_getR X 179 rfl (c518_ok rfl) rfl rfl (z_load_n X (x := x) rfl (List.Mem.tail _ (List.Mem.tail _ (List.Mem.head _))) (z_ald X 185 rfl (c518_ok rfl) rfl (by first | exact p0.1 | omega) (show x < 12 by first | exact oq_f36e82a8 p0.2 b1.2 | omega) (cbig_ok rfl) ?_)))))))
  have b3 := bc_162 I (show (x).toNat < 12 by first | exact oq_2dac6850 p0.2 b1.2 | omega)
  refine z_const X rfl (z_sub X rfl (z_ald2 X rw_189 rfl (show (x : Int).toNat < 12 by first | exact oq_2dac6850 p0.2 b1.2 | omega) (by omega) (show ((iC s 162 (x).toNat) - 1) < 24 by first | exact oq_19cb6f5b b3.2 | omega) (by decide) ?_))
  have b4 : (0 : Int) ≤ (iC s (166 + (x : Int).toNat) (((iC s 162 (x).toNat) - 1) : Int).toNat) ∧ (iC s (166 + (x : Int).toNat) (((iC s 162 (x).toNat) - 1) : Int).toNat) ≤ 127 := rw_bd rw_189 I (show (x : Int).toNat < 12 by first | exact oq_2dac6850 p0.2 b1.2 | omega) (show (((iC s 162 (x).toNat) - 1) : Int).toNat < 24 by first | exact oq_f976b25c b3.2 | omega)
  refine z_store_n X (lv' := [(3, .int (Int32.ofInt (iC s (166 + (x : Int).toNat) (((iC s 162 (x).toNat) - 1) : Int).toNat))), (2, .int (Int32.ofInt (iC s (166 + (x : Int).toNat) (0 : Int).toNat))), (0, .ref (A 179)), (1, .int (Int32.ofInt x))]) rfl (by decide) (fun _ h => h) ?_
  have hB9 : (iC s (166 + (x : Int).toNat) (((iC s 162 (x).toNat) - 1) : Int).toNat) = (lsA U (x : Int).toNat) := by have z := (jMDJ.2.1 (x : Int).toNat (by omega)).2 ((uW U).2 (x : Int).toNat - 1).toNat (by show _ < iC s 162 (x : Int).toNat; omega); replace z : iC s (166 + (x : Int).toNat) ((uW U).2 (x : Int).toNat - 1).toNat = _ := z; show _ = (uW U).1 (x : Int).toNat ((uW U).2 (x : Int).toNat - 1).toNat; rw [← z]; exact congrArg (iC s (166 + (x : Int).toNat)) (by omega)
  refine z_aload_n X (x := A 179) rfl (List.Mem.tail _ (List.Mem.tail _ (List.Mem.head _))) (s_getR X 179 rfl (c518_ok rfl) rfl rfl (z_load_n X (x := x) rfl (List.Mem.tail _ (List.Mem.tail _ (List.Mem.tail _ (List.Mem.head _)))) (z_const X rfl (z_ast X 458 rfl (c518_ok rfl) rfl (by first | exact p0.1 | omega) (show x < 12 by first | exact oq_f36e82a8 p0.2 b1.2 | omega) (cbig_ok rfl) (wd_gen (fun s5 hs5 => ?_))))))
  have Is5 : Bd s5 := eqB hs5 (bd_C I (show (0 : Int) ≤ 0 ∧ 0 ≤ 24 by first | exact ⟨by decide, by decide⟩ | omega) (by decide))
  have Fs5 := eqF hs5 (fm_C F (inl_ok (a := 403) rfl))
  have ws5_90 : iI s5 90 = iI s 90 := eqI hs5 rfl
  have cw6 : iC s5 399 ((iC s (166 + (x : Int).toNat) (((iC s 162 (x).toNat) - 1) : Int).toNat)).toNat = iC s 399 ((iC s (166 + (x : Int).toNat) (((iC s 162 (x).toNat) - 1) : Int).toNat)).toNat := eqC hs5 (iC_a (by omega))
  have fs5 : Fm [] [403] s s5 := by rw [hs5]; exact fm_C (fm_rf _ _ _) (show 403 ∈ _ by decide)
  have JRLx_s5 : RLx s5 := RLx_fm fs5 (by decide) jRLx
  have JMDJ_s5 : MDJ U s5 := MDJ_fm fs5 (by decide) jMDJ
  have hRK0 : RKP x s s5 := rkp_m rkp_0 hs5
  have hz0 : iC s5 403 (x : Int).toNat = 0 := eqC hs5 (iC_u ⟨by omega, by omega⟩)
  have hSt : ∀ j, iC s5 399 j = iC s 399 j := fun j => by rw [hs5]; exact iC_a (by decide)
  refine z_aload_n X (x := A 179) rfl (List.Mem.tail _ (List.Mem.tail _ (List.Mem.head _))) (s_getR X 179 rfl (c518_ok rfl) rfl rfl (z_load_n X (x := (iC s (166 + (x : Int).toNat) (0 : Int).toNat)) rfl (List.Mem.tail _ (List.Mem.head _)) (z_zald X 454 rfl (c518_ok rfl) rfl (by first | exact b2.1 | omega) (show (iC s (166 + (x : Int).toNat) (0 : Int).toNat) < 128 by first | exact oq_31b2bf10 b2.2 | omega) (cbig_ok rfl) ?_)))
  have b7 := bc_399 Is5 (show ((iC s (166 + (x : Int).toNat) (0 : Int).toNat)).toNat < 128 by first | exact oq_c7f4e9c1 b2.2 | omega)
  refine z_if_ne X (t := 50) rfl rfl (rng_to _) (fun g8 => ?_) (fun g8 => ?_)
  ·
    exact w_vret X.1 q hRt (ax_d X (show cdA 281 50 = some (.return_, 1, 0, 0, 0) from rfl)) (Nat.zero_le _) (Nat.zero_le _) ⟨_, rfl, Is5, Fs5, JRLx_s5, rfl, ⟨(by rw [hz0]; exact rnr_0 (Or.inl ⟨by first | (clear g8; omega) | omega, by rw [← hA9, ← hSt]; omega⟩)), hRK0⟩⟩
  ·
    refine z_aload_n X (x := A 179) rfl (List.Mem.tail _ (List.Mem.tail _ (List.Mem.head _))) (s_getR X 179 rfl (c518_ok rfl) rfl rfl (z_load_n X (x := (iC s (166 + (x : Int).toNat) (((iC s 162 (x).toNat) - 1) : Int).toNat)) rfl (List.Mem.head _) (z_zald X 454 rfl (c518_ok rfl) rfl (by first | exact b4.1 | omega) (show (iC s (166 + (x : Int).toNat) (((iC s 162 (x).toNat) - 1) : Int).toNat) < 128 by first | exact oq_31b2bf10 b4.2 | omega) (cbig_ok rfl) ?_)))
    have b9 := bc_399 Is5 (show ((iC s (166 + (x : Int).toNat) (((iC s 162 (x).toNat) - 1) : Int).toNat)).toNat < 128 by first | exact oq_c7f4e9c1 b4.2 | omega)
    refine z_if_eq X (t := 51) rfl rfl (rng_to _) (fun g10 => ?_) (fun g10 => ?_)
    ·
      have hnA : ¬ (stM s) (fsA U (x : Int).toNat) := fun w => w.2 (by rw [← hA9, ← hSt]; omega)
      have hnB : ¬ (stM s) (lsA U (x : Int).toNat) := fun w => w.2 (by rw [← hB9, ← hSt]; omega)
      refine z_const X rfl (z_store X (lv' := [(4, .int (Int32.ofInt 0)), (3, .int (Int32.ofInt (iC s (166 + (x : Int).toNat) (((iC s 162 (x).toNat) - 1) : Int).toNat))), (2, .int (Int32.ofInt (iC s (166 + (x : Int).toNat) (0 : Int).toNat))), (0, .ref (A 179)), (1, .int (Int32.ofInt x))]) rfl (by decide) (fun _ h => h) (WS_pq [3, 4, 2, 1, 0] (lv' := [(0, .ref (A 179)), (1, .int (Int32.ofInt x)), (2, .int (Int32.ofInt (iC s (166 + (x : Int).toNat) (0 : Int).toNat))), (3, .int (Int32.ofInt (iC s (166 + (x : Int).toNat) (((iC s 162 (x).toNat) - 1) : Int).toNat))), (4, .int (Int32.ofInt 0))]) rfl (L54 ((128 - 0 : Int).toNat + 1) s5 (iC s (166 + (x : Int).toNat) (0 : Int).toNat) (iC s (166 + (x : Int).toNat) (((iC s 162 (x).toNat) - 1) : Int).toNat) 0 Is5 Fs5 JRLx_s5 JMDJ_s5 ⟨fun j _ h => absurd h (by omega), hRK0⟩ (by first | exact ⟨And.intro (hA9) (hB9), And.intro (p0.1) (oq_e4d7f3c5 p0.2 b1.2), And.intro (b2.1) (b2.2), And.intro (b4.1) (b4.2), by decide, by decide, g10, hz0⟩ | omega) (Nat.lt_succ_self _) ?_)))
      intro s11 x12 Is11 Fs11 JRLx_s11 JMDJ_s11 Qs11 hs11
      have b13 := bi_90 Is11
      refine z_aload_n X (x := A 179) rfl (List.Mem.head _) (s_getR X 179 rfl (c518_ok rfl) rfl rfl (z_load_n X (x := (iC s (166 + (x : Int).toNat) (((iC s 162 (x).toNat) - 1) : Int).toNat)) rfl (List.Mem.tail _ (List.Mem.tail _ (List.Mem.tail _ (List.Mem.head _)))) (z_const X rfl (z_ast X 459 rfl (c518_ok rfl) rfl (by first | exact hs11.2.2.2.1.1 | omega) (show (iC s (166 + (x : Int).toNat) (((iC s 162 (x).toNat) - 1) : Int).toNat) < 128 by first | exact oq_31b2bf10 hs11.2.2.2.1.2 | omega) (cbig_ok rfl) (wd_gen (fun s14 hs14 => ?_))))))
      have Is14 : Bd s14 := eqB hs14 (bd_C Is11 (show ((-1) : Int) ≤ 0 ∧ 0 ≤ 127 by first | exact ⟨by decide, by decide⟩ | omega) (by decide))
      have Fs14 := eqF hs14 (fm_C Fs11 (inl_ok (a := 404) rfl))
      have ws14_90 : iI s14 90 = iI s11 90 := eqI hs14 rfl
      have cw15 : iC s14 399 ((iC s (166 + (x : Int).toNat) (((iC s 162 (x).toNat) - 1) : Int).toNat)).toNat = iC s11 399 ((iC s (166 + (x : Int).toNat) (((iC s 162 (x).toNat) - 1) : Int).toNat)).toNat := eqC hs14 (iC_a (by omega))
      have cw16 : iC s14 403 (x).toNat = iC s11 403 (x).toNat := eqC hs14 (iC_a (by omega))
      have fs14 : Fm [] [404] s11 s14 := by rw [hs14]; exact fm_C (fm_rf _ _ _) (show 404 ∈ _ by decide)
      have JRLx_s14 : RLx s14 := RLx_fm fs14 (by decide) JRLx_s11
      have JMDJ_s14 : MDJ U s14 := MDJ_fm fs14 (by decide) JMDJ_s11
      refine z_aload_n X (x := A 179) rfl (List.Mem.head _) (s_getR X 179 rfl (c518_ok rfl) rfl rfl (z_const X rfl (z_load_n X (x := (iC s (166 + (x : Int).toNat) (((iC s 162 (x).toNat) - 1) : Int).toNat)) rfl (List.Mem.tail _ (List.Mem.tail _ (List.Mem.tail _ (List.Mem.head _)))) (z_ast X 260 rfl (c518_ok rfl) rfl (by decide) (show 0 < 128 by decide) (cbig_ok rfl) (wd_gen (fun s17 hs17 => ?_))))))
      have Is17 : Bd s17 := eqB hs17 (bd_C Is14 (show (0 : Int) ≤ (iC s (166 + (x : Int).toNat) (((iC s 162 (x).toNat) - 1) : Int).toNat) ∧ (iC s (166 + (x : Int).toNat) (((iC s 162 (x).toNat) - 1) : Int).toNat) ≤ 127 by first | exact ⟨hs11.2.2.2.1.1, hs11.2.2.2.1.2⟩ | omega) (rng_to _))
      have Fs17 := eqF hs17 (fm_C Fs14 (inl_ok (a := 232) rfl))
      have ws17_90 : iI s17 90 = iI s14 90 := eqI hs17 rfl
      have cw18 : iC s17 399 ((iC s (166 + (x : Int).toNat) (((iC s 162 (x).toNat) - 1) : Int).toNat)).toNat = iC s14 399 ((iC s (166 + (x : Int).toNat) (((iC s 162 (x).toNat) - 1) : Int).toNat)).toNat := eqC hs17 (iC_a (by omega))
      have cw19 : iC s17 403 (x).toNat = iC s14 403 (x).toNat := eqC hs17 (iC_a (by omega))
      have fs17 : Fm [] [232] s14 s17 := by rw [hs17]; exact fm_C (fm_rf _ _ _) (show 232 ∈ _ by decide)
      have JRLx_s17 : RLx s17 := RLx_fm fs17 (by decide) JRLx_s14
      have JMDJ_s17 : MDJ U s17 := MDJ_fm fs17 (by decide) JMDJ_s14
      refine z_const X rfl (z_store X (lv' := [(4, .int (Int32.ofInt 1)), (0, .ref (A 179)), (1, .int (Int32.ofInt x)), (2, .int (Int32.ofInt (iC s (166 + (x : Int).toNat) (0 : Int).toNat))), (3, .int (Int32.ofInt (iC s (166 + (x : Int).toNat) (((iC s 162 (x).toNat) - 1) : Int).toNat)))]) rfl (by decide) (fun _ h => h) (z_const X rfl (z_store X (lv' := [(5, .int (Int32.ofInt 0)), (4, .int (Int32.ofInt 1)), (0, .ref (A 179)), (1, .int (Int32.ofInt x)), (2, .int (Int32.ofInt (iC s (166 + (x : Int).toNat) (0 : Int).toNat))), (3, .int (Int32.ofInt (iC s (166 + (x : Int).toNat) (((iC s 162 (x).toNat) - 1) : Int).toNat)))]) rfl (by decide) (fun _ h => h) (WS_pq [2, 3, 4, 5, 1, 0] (lv' := [(0, .ref (A 179)), (1, .int (Int32.ofInt x)), (2, .int (Int32.ofInt (iC s (166 + (x : Int).toNat) (0 : Int).toNat))), (3, .int (Int32.ofInt (iC s (166 + (x : Int).toNat) (((iC s 162 (x).toNat) - 1) : Int).toNat))), (4, .int (Int32.ofInt 1)), (5, .int (Int32.ofInt 0))]) rfl ?_))))
      have hB23 : FBx 1 s17 := FB_0 (b := (iC s (166 + (x : Int).toNat) (((iC s 162 (x).toNat) - 1) : Int).toNat)) (by omega) (fun j hj => Qs11.1 j hj (by omega)) (by omega) hs14 hs17
      have hU0 : UPD 404 (iC s (166 + (x : Int).toNat) (((iC s 162 (x).toNat) - 1) : Int).toNat) 0 s11 s17 := ⟨by rw [hs17, iC_a (by decide), hs14]; exact iC_u ⟨by omega, by omega⟩, fun j hj => by rw [hs17, iC_a (by decide), hs14]; exact iC_n hj⟩
      have hSP : SPM (stM s) (lsA U (x : Int).toNat) 0 0 1 s17 := by have z := spm_0 (S := (stM s)) (b := (iC s (166 + (x : Int).toNat) (((iC s 162 (x).toNat) - 1) : Int).toNat)) (by omega) (by rw [show (iC s (166 + (x : Int).toNat) (((iC s 162 (x).toNat) - 1) : Int).toNat) = (lsA U (x : Int).toNat) by omega]; exact hnB) (fun c hc => Qs11.1 c hc (by omega)) hU0 (show iC s17 232 0 = _ by rw [hs17]; exact iC_u ⟨by omega, by omega⟩); rw [show (iC s (166 + (x : Int).toNat) (((iC s 162 (x).toNat) - 1) : Int).toNat) = (lsA U (x : Int).toNat) by omega] at z; exact z
      refine L96 ((128 - 0 : Int).toNat + 1) s17 (iC s (166 + (x : Int).toNat) (0 : Int).toNat) (iC s (166 + (x : Int).toNat) (((iC s 162 (x).toNat) - 1) : Int).toNat) 1 0 Is17 Fs17 JRLx_s17 JMDJ_s17 ⟨hB23, hSP, rkp_a (rkp_a Qs11.2 (by decide) hs14) (by decide) hs17⟩ (by first | exact ⟨And.intro (hs11.1.1) (hs11.1.2), And.intro (hs11.2.1.1) (hs11.2.1.2), And.intro (hs11.2.2.1.1) (hs11.2.2.1.2), And.intro (hs11.2.2.2.1.1) (hs11.2.2.2.1.2), by decide, by decide, by decide, by decide, oq_cd9cbf39 cw19 cw16 hs11.2.2.2.2.2.2⟩ | omega) (Nat.lt_succ_self _) ?_
      intro s20 x21 x22 Is20 Fs20 JRLx_s20 JMDJ_s20 Qs20 hs20
      have b24 := bi_90 Is20
      have hFR : FRM8 (stM s) (lsA U (x : Int).toNat) s20 := frm_of Qs20.2.1 (by omega) (by omega)
      have hfr := frm_r hFR (c := ((iC s (166 + (x : Int).toNat) (0 : Int).toNat) : Int).toNat) (by omega)
      refine z_aload_n X (x := A 179) rfl (List.Mem.head _) (s_getR X 179 rfl (c518_ok rfl) rfl rfl (z_load_n X (x := (iC s (166 + (x : Int).toNat) (0 : Int).toNat)) rfl (List.Mem.tail _ (List.Mem.tail _ (List.Mem.head _))) (z_ald X 459 rfl (c518_ok rfl) rfl (by first | exact hs20.2.2.1.1 | omega) (show (iC s (166 + (x : Int).toNat) (0 : Int).toNat) < 128 by first | exact oq_31b2bf10 hs20.2.2.1.2 | omega) (cbig_ok rfl) ?_)))
      have b25 := bc_404 Is20 (show ((iC s (166 + (x : Int).toNat) (0 : Int).toNat)).toNat < 128 by first | exact oq_c7f4e9c1 hs20.2.2.1.2 | omega)
      refine z_const X rfl (z_icmp_eq X (t := 223) rfl rfl (rng_to _) (by decide) (fun g26 => ?_) (fun g26 => ?_))
      ·
        exact w_vret X.1 q hRt (ax_d X (show cdA 281 223 = some (.return_, 1, 0, 0, 0) from rfl)) (Nat.zero_le _) (Nat.zero_le _) ⟨_, rfl, Is20, Fs20, JRLx_s20, rfl, ⟨(by rw [show iC s20 403 (x : Int).toNat = 0 by omega]; rw [← hA9]; exact frm_no hFR (by omega) (by omega)), Qs20.2.2⟩⟩
      ·
        refine z_aload_n X (x := A 179) rfl (List.Mem.head _) (s_getR X 179 rfl (c518_ok rfl) rfl rfl (z_load_n X (x := (iC s (166 + (x : Int).toNat) (0 : Int).toNat)) rfl (List.Mem.tail _ (List.Mem.tail _ (List.Mem.head _))) (z_ald X 459 rfl (c518_ok rfl) rfl (by first | exact hs20.2.2.1.1 | omega) (show (iC s (166 + (x : Int).toNat) (0 : Int).toNat) < 128 by first | exact oq_31b2bf10 hs20.2.2.1.2 | omega) (cbig_ok rfl) ?_)))
        have b27 := bc_404 Is20 (show ((iC s (166 + (x : Int).toNat) (0 : Int).toNat)).toNat < 128 by first | exact oq_c7f4e9c1 hs20.2.2.1.2 | omega)
        refine z_bipush X rfl (z_icmp_le X (t := 224) rfl rfl (rng_to _) (by decide) (fun g28 => ?_) (fun g28 => ?_))
        ·
          refine z_aload_n X (x := A 179) rfl (List.Mem.head _) (s_getR X 179 rfl (c518_ok rfl) rfl rfl (z_load_n X (x := x) rfl (List.Mem.tail _ (List.Mem.head _)) (z_aload_n X (x := A 179) rfl (List.Mem.head _) (s_getR X 179 rfl (c518_ok rfl) rfl rfl (z_load_n X (x := (iC s (166 + (x : Int).toNat) (0 : Int).toNat)) rfl (List.Mem.tail _ (List.Mem.tail _ (List.Mem.head _))) (z_ald X 459 rfl (c518_ok rfl) rfl (by first | exact hs20.2.2.1.1 | omega) (show (iC s (166 + (x : Int).toNat) (0 : Int).toNat) < 128 by first | exact oq_31b2bf10 hs20.2.2.1.2 | omega) (cbig_ok rfl) ?_))))))
          have b29 := bc_404 Is20 (show ((iC s (166 + (x : Int).toNat) (0 : Int).toNat)).toNat < 128 by first | exact oq_c7f4e9c1 hs20.2.2.1.2 | omega)
          refine z_const X rfl (z_add X rfl (z_ast X 458 rfl (c518_ok rfl) rfl (by first | exact hs20.2.1.1 | omega) (show x < 12 by first | exact oq_0ddfcfee hs20.2.1.2 | omega) (cbig_ok rfl) (wd_gen (fun s30 hs30 => ?_))))
          have Is30 : Bd s30 := eqB hs30 (bd_C Is20 (show (0 : Int) ≤ ((iC s20 404 ((iC s (166 + (x : Int).toNat) (0 : Int).toNat)).toNat) + 1) ∧ ((iC s20 404 ((iC s (166 + (x : Int).toNat) (0 : Int).toNat)).toNat) + 1) ≤ 24 by first | exact ⟨oq_4554f0f1 b29.1, oq_3d4d89a6 g28⟩ | omega) ⟨by first | exact oq_22f29dd0 b29.1 | omega, by first | exact oq_3e466f4f b29.2 | omega⟩)
          have Fs30 := eqF hs30 (fm_C Fs20 (inl_ok (a := 403) rfl))
          have ws30_90 : iI s30 90 = iI s20 90 := eqI hs30 rfl
          have cw31 : iC s30 399 ((iC s (166 + (x : Int).toNat) (((iC s 162 (x).toNat) - 1) : Int).toNat)).toNat = iC s20 399 ((iC s (166 + (x : Int).toNat) (((iC s 162 (x).toNat) - 1) : Int).toNat)).toNat := eqC hs30 (iC_a (by first | (clear g26; omega) | omega))
          have fs30 : Fm [] [403] s20 s30 := by rw [hs30]; exact fm_C (fm_rf _ _ _) (show 403 ∈ _ by decide)
          have JRLx_s30 : RLx s30 := RLx_fm fs30 (by decide) JRLx_s20
          have JMDJ_s30 : MDJ U s30 := MDJ_fm fs30 (by decide) JMDJ_s20
          have JFBx_s30 : FBx x21 s30 := FBx_fm fs30 (by decide) Qs20.1
          have m1_s30 : iC s30 403 (x : Int).toNat = iC s20 404 ((iC s (166 + (x : Int).toNat) (0 : Int).toNat) : Int).toNat + 1 := eqC hs30 (iC_u ⟨by first | (clear g26; omega) | omega, by first | (clear g26; omega) | omega⟩)
          have m2_s30 : iC s30 404 ((iC s (166 + (x : Int).toNat) (0 : Int).toNat) : Int).toNat = iC s20 404 ((iC s (166 + (x : Int).toNat) (0 : Int).toNat) : Int).toNat := eqC hs30 (iC_a (by decide))
          refine z_aload_n X (x := A 179) rfl (List.Mem.head _) (s_getR X 179 rfl (c518_ok rfl) rfl rfl (z_load_n X (x := x) rfl (List.Mem.tail _ (List.Mem.head _)) (z_aald X rw_460 rfl (by first | exact hs20.2.1.1 | omega) (show x < 12 by first | exact oq_0ddfcfee hs20.2.1.2 | omega) (by decide) (z_const X rfl (z_load_n X (x := (iC s (166 + (x : Int).toNat) (0 : Int).toNat)) rfl (List.Mem.tail _ (List.Mem.tail _ (List.Mem.head _))) (z_ast2 X rw_460 rfl (show (x : Int).toNat < 12 by first | exact oq_9c5fa447 hs20.2.1.2 | omega) (by decide) (show 0 < 24 by decide) (by decide) (wd_gen (fun s32 hs32 => ?_))))))))
          have Is32 : Bd s32 := eqB hs32 (rw_st rw_460 Is30 (show (x : Int).toNat < 12 by first | exact oq_9c5fa447 hs20.2.1.2 | omega) (show (0 : Int) ≤ (iC s (166 + (x : Int).toNat) (0 : Int).toNat) ∧ (iC s (166 + (x : Int).toNat) (0 : Int).toNat) ≤ 127 by first | exact ⟨hs20.2.2.1.1, hs20.2.2.1.2⟩ | omega) (rng_to _))
          have Fs32 := eqF hs32 (fm_C (i := (0 : Int).toNat) (x := Int32.ofInt (iC s (166 + (x : Int).toNat) (0 : Int).toNat)) Fs30 ((show ∀ j, j < 12 → 405 + j ∈ _ by decide) (x : Int).toNat (by first | exact oq_9c5fa447 hs20.2.1.2 | omega)))
          have ws32_90 : iI s32 90 = iI s30 90 := eqI hs32 rfl
          have cw33 : iC s32 399 ((iC s (166 + (x : Int).toNat) (((iC s 162 (x).toNat) - 1) : Int).toNat)).toNat = iC s30 399 ((iC s (166 + (x : Int).toNat) (((iC s 162 (x).toNat) - 1) : Int).toNat)).toNat := eqC hs32 (iC_a (by first | (clear g26; omega) | omega))
          have cw34 : iC s32 403 (x).toNat = iC s30 403 (x).toNat := eqC hs32 (iC_a (by first | (clear g26; omega) | omega))
          have fs32 : Fm [] [405, 406, 407, 408, 409, 410, 411, 412, 413, 414, 415, 416] s30 s32 := by rw [hs32]; exact fm_C (fm_rf _ _ _) ((show ∀ j, j < 12 → 405 + j ∈ _ by decide) (x : Int).toNat (by first | exact oq_9c5fa447 hs20.2.1.2 | omega))
          have JRLx_s32 : RLx s32 := RLx_fm fs32 (by decide) JRLx_s30
          have JMDJ_s32 : MDJ U s32 := MDJ_fm fs32 (by decide) JMDJ_s30
          have JFBx_s32 : FBx x21 s32 := FBx_fm fs32 (by decide) JFBx_s30
          have p1_s32 : iC s32 (405 + (x : Int).toNat) ((1 - 1) : Int).toNat = (iC s (166 + (x : Int).toNat) (0 : Int).toNat) := eqC hs32 (iC_u ⟨by first | (clear g26; omega) | omega, by first | (clear g26; omega) | omega⟩)
          have p2_s32 : iC s32 404 ((iC s (166 + (x : Int).toNat) (0 : Int).toNat) : Int).toNat = iC s30 404 ((iC s (166 + (x : Int).toNat) (0 : Int).toNat) : Int).toNat := eqC hs32 (iC_a (by first | (clear g26; omega) | omega))
          have p3_s32 : iC s32 403 (x : Int).toNat = iC s30 403 (x : Int).toNat := eqC hs32 (iC_a (by first | (clear g26; omega) | omega))
          have p4_s32 : iC s32 404 (iC s32 (405 + (x : Int).toNat) ((1 - 1) : Int).toNat : Int).toNat = iC s32 403 (x : Int).toNat - 1 := by rw [p1_s32, p2_s32, p3_s32]; omega
          refine z_const X rfl (z_store X (lv' := [(5, .int (Int32.ofInt 1)), (0, .ref (A 179)), (1, .int (Int32.ofInt x)), (2, .int (Int32.ofInt (iC s (166 + (x : Int).toNat) (0 : Int).toNat))), (3, .int (Int32.ofInt (iC s (166 + (x : Int).toNat) (((iC s 162 (x).toNat) - 1) : Int).toNat))), (4, .int (Int32.ofInt x21))]) rfl (by decide) (fun _ h => h) (WS_pq [1, 2, 5, 0] (lv' := [(0, .ref (A 179)), (1, .int (Int32.ofInt x)), (4, .int (Int32.ofInt x21)), (5, .int (Int32.ofInt 1))]) rfl ?_))
          have hFQ : FRQM (x : Int).toNat (stM s) (fsA U (x : Int).toNat) (lsA U (x : Int).toNat) (iC s32 403 (x : Int).toNat) 1 s32 := by have z := frqm_0 (xx := (x : Int).toNat) (n := iC s32 403 (x : Int).toNat) hFR (a := (iC s (166 + (x : Int).toNat) (0 : Int).toNat)) (by first | (clear g26; omega) | omega) (by first | (clear g26; omega) | omega) (fun j => by rw [hs32, iC_a (by first | (clear g26; omega) | omega), hs30]; exact iC_a (by decide)) (show iC s32 (405 + (x : Int).toNat) 0 = _ by rw [hs32]; exact iC_u ⟨by first | (clear g26; omega) | omega, by first | (clear g26; omega) | omega⟩); rw [show (iC s (166 + (x : Int).toNat) (0 : Int).toNat) = (fsA U (x : Int).toNat) by first | (clear g26; omega) | omega] at z; exact z
          refine L250 ((24 - 1 : Int).toNat + 1) s32 x21 1 Is32 Fs32 JRLx_s32 JMDJ_s32 ⟨JFBx_s32, hFQ, rkp_r (rkp_m Qs20.2.2 hs30) hs32⟩ (by first | exact ⟨And.intro (hs20.2.1.1) (hs20.2.1.2), by decide, by decide, oq_9835d0b6 p3_s32 m1_s30 b29.1 g26, oq_a57391d3 p3_s32 m1_s30 g28, oq_9835d0b6 p3_s32 m1_s30 b29.1 g26, p4_s32⟩ | omega) (Nat.lt_succ_self _) ?_
          intro s35 x36 Is35 Fs35 JRLx_s35 JMDJ_s35 Qs35 hs35
          have b37 := bi_90 Is35
          exact w_vret X.1 q hRt (ax_d X (show cdA 281 376 = some (.return_, 1, 0, 0, 0) from rfl)) (Nat.zero_le _) (Nat.zero_le _) ⟨_, rfl, Is35, Fs35, JRLx_s35, rfl, ⟨(by have z := Qs35.2.1; exact frqm_e z (by first | (clear g26; omega) | omega) (by first | (clear g26; omega) | omega) hnA hnB), Qs35.2.2⟩⟩
        ·
          exact w_vret X.1 q hRt (ax_d X (show cdA 281 223 = some (.return_, 1, 0, 0, 0) from rfl)) (Nat.zero_le _) (Nat.zero_le _) ⟨_, rfl, Is20, Fs20, JRLx_s20, rfl, ⟨(by rw [show iC s20 403 (x : Int).toNat = 0 by first | (clear g26; omega) | omega]; rw [← hA9]; exact frm_no hFR (by first | (clear g26; omega) | omega) (by first | (clear g26; omega) | omega)), Qs20.2.2⟩⟩
    ·
      exact w_vret X.1 q hRt (ax_d X (show cdA 281 50 = some (.return_, 1, 0, 0, 0) from rfl)) (Nat.zero_le _) (Nat.zero_le _) ⟨_, rfl, Is5, Fs5, JRLx_s5, rfl, ⟨(by rw [hz0]; exact rnr_0 (Or.inr ⟨by first | (clear g10; omega) | omega, by rw [← hB9, ← hSt]; omega⟩)), hRK0⟩⟩
end M87kz
