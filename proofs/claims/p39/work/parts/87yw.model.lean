theorem oq_dfaa262d {a0 : Int} (h0 : a0 = 0) : (a0 + ((7 : Nat) : Int)) = 7 := by omega
theorem oq_74b74999 : (12 + (3 * (7) + 2)) + 1 ≤ 36 := by omega
theorem oq_f4197522 : 8 + (4 + 11) + (500 + 45 * (3 * (7) + 2)) ≤ 1558 := by omega
theorem oq_535341f0 {a0 : Int} (h0 : a0 = 0) : 0 ≤ (a0 + 1) := by omega
theorem oq_234775a9 {a0 : Int} (h0 : a0 = 0) : (a0 + 1) ≤ 24 := by omega
theorem oq_f34933ba {a0 a1 a2 : Int} (h0 : a0 = a1) (h1 : a1 = a2) (h2 : a2 = 1) (h3 : 1 ≤ a2) : a0 = 1 := by omega
theorem oq_2cdd0178 {a0 : Int} (h0 : a0 = 0) : 0 < (24 - a0) := by omega
theorem oq_daf052ec {a0 a1 a2 : Int} (h0 : a0 ≤ ((28800 * a1) + (1200 * a2))) (h1 : a2 ≤ 24) : a0 ≤ ((28800 * a1) + 28800) := by omega
theorem oq_3aa2babc {a0 a1 a2 a3 : Int} (h0 : a0 ≤ ((28800 * a1) + (1200 * a2))) (h1 : a3 ≤ 1200) : (a0 + a3) ≤ ((28800 * a1) + (1200 * (a2 + 1))) := by omega
theorem oq_92e9716e {a0 a1 a2 : Int} (h0 : a0 ≤ ((28800 * a1) + (1200 * a2))) : (a0 + 0) ≤ ((28800 * a1) + (1200 * (a2 + 1))) := by omega
theorem oq_c19f7354 {a0 a1 a2 : Int} (h0 : a0 ≤ (28800 * a1)) (h1 : a1 ≤ a2) (h2 : a2 ≤ 12) : a0 ≤ 2147483647 := by omega
theorem oq_3cb15189 {a0 a1 : Int} (h0 : a0 ≤ (28800 * a1)) : a0 ≤ ((28800 * a1) + (1200 * 1)) := by omega
theorem oq_bd4a7464 {a0 a1 : Int} (h0 : a0 ≤ ((28800 * a1) + 28800)) : a0 ≤ (28800 * (a1 + 1)) := by omega
/-! The model's air: the same as the class's -/
abbrev WYT (s : PS) : WyS := (fun x k => iC s (166 + x) k, fun x => iC s 162 x)
def LDB (B : Nat → Int) (L : LdF) (s : PS) : Prop := (0 ≤ iI s 85 ∧ iI s 85 ≤ iI s 82) ∧ (∀ k : Nat, (k : Int) < iI s 82 → iC s 158 k = B k) ∧ ∃ (c : List Int) (r : Int), PGR B (iI s 82) 3 [] (sk B (iI s 82) (iI s 85)) 0 (0, c, r) ∧ ∀ nm, VLm nm (L nm) c
def LDM (L : LdF) (s : PS) : Prop := (iI s 85 = -1 ∧ L = ldD) ∨ ∃ B, LDB B L s
theorem ldm_b {L : LdF} {s : PS} (h : LDM L s) (hl : iI s 85 ≠ -1) : ∃ B, LDB B L s := h.elim (fun q => absurd q.1 hl) id
theorem LDM_fm {L' : LdF} {L M : List Nat} {s t : PS} (F : Fm L M s t) (h : 85 ∉ L ∧ 82 ∉ L ∧ 158 ∉ M) (r : LDM L' s) : LDM L' t := by
  have e2 : iI t 85 = iI s 85 := fm_i F h.1
  have e3 : iI t 82 = iI s 82 := fm_i F h.2.1
  rcases r with r | ⟨B, r1, r2, c, q, r3, r4⟩
  · exact Or.inl ⟨e2.trans r.1, r.2⟩
  · refine Or.inr ⟨B, by rw [e2, e3]; exact r1, fun k hk => (fm_c F h.2.2).trans (r2 k (by rw [← e3]; exact hk)), c, q, ?_, r4⟩
    rw [e2, e3]; exact r3
def MDJ (U : AirD) (s : PS) : Prop := (iI s 90 = (uN U : Int) ∧ uN U ≤ 12) ∧ WyE (uN U) (WYT s) (uW U) ∧ (∀ x, x < uN U → WOK ((uW U).1 x) ((uW U).2 x)) ∧ (∀ x c : Nat, x < uN U → c < 128 → (iC s (178 + x) c = -1 ∧ ∀ k : Nat, (k : Int) < (uW U).2 x → (uW U).1 x k ≠ (c : Int)) ∨ ∃ k : Nat, (k : Int) < (uW U).2 x ∧ (uW U).1 x k = (c : Int) ∧ iC s (178 + x) c = (k : Int)) ∧ (∀ q x : Nat, q < 24 → x < uN U → MXG (CMR s (x : Int)) ((q : Int) - iC s 164 x) ((q : Int) + iC s 163 x + 1) (uM U q x)) ∧ (∀ x : Nat, x < uN U → sqn (CMR s (x : Int)) 24 = uT U x) ∧ LDM (uL U) s
theorem MDJ_fm {U : AirD} {L M : List Nat} {s t : PS} (F : Fm L M s t) (h : (90 ∉ L ∧ 85 ∉ L ∧ 82 ∉ L) ∧ (162 ∉ M ∧ 164 ∉ M ∧ 163 ∉ M ∧ 158 ∉ M) ∧ ∀ i, i < 12 → 166 + i ∉ M ∧ 178 + i ∉ M ∧ 190 + i ∉ M) (r : MDJ U s) : MDJ U t := by
  have e1 : iI t 90 = iI s 90 := fm_i F h.1.1
  obtain ⟨⟨r1, r2⟩, r3, r4, r5, r6, r7, r8⟩ := r
  have rw_ : ∀ (x : Nat) (_ : x < uN U) (j : Nat), iC t (166 + x) j = iC s (166 + x) j ∧ iC t (178 + x) j = iC s (178 + x) j ∧ iC t (190 + x) j = iC s (190 + x) j := fun x hx j => ⟨fm_c F (h.2.2 x (by omega)).1, fm_c F (h.2.2 x (by omega)).2.1, fm_c F (h.2.2 x (by omega)).2.2⟩
  have cm : ∀ (x : Nat) (_ : x < uN U), CMR t (x : Int) = CMR s (x : Int) := fun x hx => funext (fun k => by
    show iC t (190 + ((x : Int)).toNat) k.toNat = iC s (190 + ((x : Int)).toNat) k.toNat
    rw [show ((x : Int)).toNat = x by omega]
    exact (rw_ x hx _).2.2)
  refine ⟨⟨by rw [e1]; exact r1, r2⟩, fun x hx => ?_, r4, fun x c hx hc => ?_, fun q x hq hx => ?_, fun x hx => ?_, ?_⟩
  · have z := r3 x hx
    have m : iC t 162 x = iC s 162 x := fm_c F h.2.1.1
    refine ⟨m.trans z.1, fun k hk => ((rw_ x hx k).1).trans (z.2 k (by show (k : Int) < iC s 162 x; rw [← m]; exact hk))⟩
  · rw [(rw_ x hx c).2.1]; exact r5 x c hx hc
  · rw [cm x hx, fm_c F h.2.1.2.1, fm_c F h.2.1.2.2.1]; exact r6 q x hq hx
  · rw [cm x hx]; exact r7 x hx
  · exact LDM_fm F ⟨h.1.2.1, h.1.2.2, h.2.1.2.2.2⟩ r8
/-- the ways heard now are those told -/
theorem nq_w {U : AirD} {s : PS} (h : MDJ U s) (q : NQ s) : WyE (uN U) (WYM s) (uW U) ∧ NWL s := by
  obtain ⟨⟨r1, r2⟩, r3, r4, r5, -⟩ := h
  have a : ∀ x : Nat, x < uN U → iC s 202 x = (uW U).2 x ∧ (∀ k : Nat, (k : Int) < (uW U).2 x → iC s (204 + x) k = (uW U).1 x k) ∧ ∀ c, c < 128 → iC s (216 + x) c = iC s (178 + x) c := fun x hx => by
    obtain ⟨q1, q2, q3⟩ := q x (by omega) (by omega)
    obtain ⟨m1, m2⟩ := r3 x hx
    replace m1 : iC s 162 x = (uW U).2 x := m1
    have w := (r4 x hx).1
    refine ⟨q1.trans m1, fun k hk => ?_, q3⟩
    rw [q2 k (by omega) (by rw [m1]; exact hk)]
    exact m2 k (by show (k : Int) < iC s 162 x; rw [m1]; exact hk)
  refine ⟨fun x hx => ⟨(a x hx).1, fun k hk => (a x hx).2.1 k (by rw [← (a x hx).1]; exact hk)⟩, fun x hx hs => ?_⟩
  have hx' : x < uN U := by omega
  obtain ⟨a1, a2, a3⟩ := a x hx'
  have w := r4 x hx'
  unfold fwM
  rw [a1]
  refine ⟨w.1, fun k hk => by rw [a2 k hk]; exact w.2.1 k hk, fun k l hk hl e => w.2.2.2 k l hk hl (by rw [← a2 k hk, ← a2 l hl]; exact e), fun c hc => ?_⟩
  rw [a3 c hc]
  rcases r5 x c hx' hc with ⟨z1, z2⟩ | ⟨k, k1, k2, k3⟩
  · exact Or.inl ⟨z1, fun k hk => by rw [a2 k hk]; exact z2 k hk⟩
  · exact Or.inr ⟨k, k1, by rw [a2 k k1]; exact k2, k3⟩
/-- the ways heard now -/
def NWE (U : AirD) (s : PS) : Prop := uN U ≤ 12 ∧ WyE (uN U) (WYM s) (uW U)
theorem NWE_fm {U : AirD} {L M : List Nat} {s t : PS} (F : Fm L M s t) (h : 202 ∉ M ∧ ∀ i, i < 12 → 204 + i ∉ M) (r : NWE U s) : NWE U t := ⟨r.1, fun x hx => by
  have m : iC t 202 x = iC s 202 x := fm_c F h.1
  obtain ⟨z1, z2⟩ := r.2 x hx
  have hn := r.1
  exact ⟨m.trans z1, fun k hk => (fm_c F (h.2 x (by omega))).trans (z2 k (by show (k : Int) < iC s 202 x; rw [← m]; exact hk))⟩⟩
/-- the mosts heard now -/
def NMQ (mo : Nat → Int) (n : Int) (s : PS) : Prop := ∀ x : Nat, (x : Int) < n → iC s 203 x = mo x
theorem nmq_up {U : AirD} {q n e : Int} {s t u : PS} (h : NMQ (uM U q.toNat) n s) (d : MDJ U s) (n0 : 0 ≤ n ∧ n < (uN U : Int)) (q0 : 0 ≤ q ∧ q ≤ 23) (he : MXG (CMR s n) (q - iC s 164 n.toNat) (q + iC s 163 n.toNat + 1) e) (ht : SAM 203 s t) (hu : UPD 203 n e t u) : NMQ (uM U q.toNat) (n + 1) u := fun x hx => by
  by_cases z : x = n.toNat
  · rw [z, hu.1]
    have m := d.2.2.2.2.1 q.toNat n.toNat (by omega) (by omega)
    rw [show ((q.toNat : Nat) : Int) = q by omega, show ((n.toNat : Nat) : Int) = n by omega] at m
    exact mx_un he m (fun _ _ _ => rfl)
  · rw [hu.2 x z, ht]; exact h x (by omega)
/-- the names that the model has heard -/
theorem ml_names {U : AirD} {mo : Nat → Int} {s t : PS} (h : LMD s t) (hw' : NWE U s) (hm : NMQ mo (uN U : Int) s) (hn : iI s 90 = (uN U : Int)) (hr : ∀ x, x < uN U → WOK ((uW U).1 x) ((uW U).2 x)) : ∀ j, j < 7 → NMr t j = nmH (inS s) (uW U) mo (uN U) (iI s 89) j := by
  have hw := hw'.2
  obtain ⟨h0, h1, h2, h3, h4, h5, h6⟩ := h
  have en : (iI s 90).toNat = uN U := by omega
  rw [en] at h0 h1 h2 h3
  have hm' : ∀ x, x < uN U → moM s x = mo x := fun x hx => hm x (by omega)
  have se := hrd_e (w := uW U) (n := uN U) (S := inM s) (S' := inS s) (mo := mo) (fun x hx k hk => by
    have r := (hr x hx).2.1 k hk
    exact ⟨fun q => ⟨r, q⟩, fun q => q.2⟩)
  intro j hj
  rcases (show j = 0 ∨ j = 1 ∨ j = 2 ∨ j = 3 ∨ j = 4 ∨ j = 5 ∨ j = 6 by omega) with z | z | z | z | z | z | z <;> subst z
  · show Int32.ofInt (iC t 161 0) = Int32.ofInt (waH (inS s) (uW U) mo (uN U))
    rw [h0, wa_c hw hm', se.1]
  · show Int32.ofInt (iC t 161 1) = Int32.ofInt (crH (inS s) (uW U) mo (uN U))
    rw [h1, cr_c hw hm', se.2.1]
  · show Int32.ofInt (iC t 161 2) = Int32.ofInt (oaH (inS s) (uW U) mo (uN U))
    rw [h2, oa_c hw hm', se.2.2.1]
  · show Int32.ofInt (iC t 161 3) = Int32.ofInt (caH (inS s) (uW U) mo (uN U))
    rw [h3, ca_c hw hm', se.2.2.2]
  · show Int32.ofInt (iC t 161 4) = Int32.ofInt (sm (fun c : Nat => i01 (inS s (c : Int))) 128)
    rw [h4]
    refine congrArg Int32.ofInt ?_
    exact sm_eq (fun c hc => i01_c ⟨fun q => ⟨by omega, q⟩, fun q => q.2⟩)
  · show Int32.ofInt (iC t 161 5) = Int32.ofInt (sm (fun c : Nat => i01 ((c : Int) < 64 ∧ inS s (c : Int))) 128)
    rw [h5]
    refine congrArg Int32.ofInt ?_
    exact sm_eq (fun c hc => i01_c ⟨fun q => ⟨q.1, by omega, q.2⟩, fun q => ⟨q.1, q.2.2⟩⟩)
  · show Int32.ofInt (iC t 161 6) = Int32.ofInt (iI s 89)
    rw [h6]
theorem vl_un {nm : Nat → Int32} {v w : Int32} {c : List Int} (h : VLm nm v c) (h' : VLm nm w c) : v = w := (List.cons.inj ((h []).symm.trans (h' []))).1
/-- the model's load, by default, by its text -/
theorem ml_ld0 {U : AirD} {mo : Nat → Int} {s t : PS} {y1 y2 y3 : Int} (hn : ∀ j, j < 7 → NMr t j = nmH (inS s) (uW U) mo (uN U) (iI s 89) j) (d : LDM (uL U) s) (hl : iI s 85 = -1) (e1 : Int32.ofInt y1 = Int32.ofInt (2 * iC t 161 1)) (e2 : Int32.ofInt y2 = Int32.ofInt (iC t 161 0 + y1)) (e3 : Int32.ofInt y3 = Int32.ofInt (y2 + iC t 161 2)) : Int32.ofInt y3 = uL U (nmH (inS s) (uW U) mo (uN U) (iI s 89)) := by
  rcases d with ⟨_, q⟩ | ⟨_, q, _⟩
  · rw [ld_0 e1 e2 e3, q]
    exact ldd_of (hn 0 (by decide)) (hn 1 (by decide)) (hn 2 (by decide))
  · omega
theorem ml_ld1 {U : AirD} {B : Nat → Int} {mo : Nat → Int} {s t u v : PS} {e : Int} (hn : ∀ j, j < 7 → NMr t j = nmH (inS s) (uW U) mo (uN U) (iI s 89) j) (d : LDB B (uL U) s) (hu : NMr u = NMr t) (ha : iI u 77 = iI s 85) (ho : iI u 78 = 0) (hf : iI u 79 = 0) (h : PFv (VLm (NMr u) (Int32.ofInt e)) B (iI s 82) 3 u v) : Int32.ofInt e = uL U (nmH (inS s) (uW U) mo (uN U) (iI s 89)) := by
  obtain ⟨_, _, c, r, g1, g2⟩ := d
  have o := pf_ouv h hf
  rw [ha, ho] at o
  obtain ⟨r', p1, p2⟩ := o
  have ee := pgr_un p1 g1
  rw [ee] at p2
  rcases p2 with ⟨_, _, _, hv⟩ | ⟨f1, f2⟩
  · rw [hu] at hv
    exact vl_un (vl_ext hn hv) (g2 _)
  · exact absurd f2 f1
theorem NMQ_fm {mo : Nat → Int} {n : Int} {L M : List Nat} {s t : PS} (F : Fm L M s t) (h : 203 ∉ M) (r : NMQ mo n s) : NMQ mo n t := fun x hx => (fm_c F h).trans (r x hx)
theorem fdb_r {s t : PS} {B : Nat → Int} (hw : iI t 81 = 1) (hz : iI t 75 = iI s 82) (hr : ∀ i, iC t 158 i = iC s 158 i) (hb : ∀ k : Nat, (k : Int) < iI s 82 → iC s 158 k = B k) : FDB B (iI s 82) t := ⟨fun i hi => (show BYV t i = iC t 158 i from if_neg (by omega)).trans ((hr i).trans (hb i hi)), hz, by omega⟩
/-- sets of the model's -/
abbrev pfM (s : PS) : Nat → Int := fun j => iC s 228 j
theorem ins_fm {L M : List Nat} {s t : PS} (F : Fm L M s t) (h : 230 ∉ M) : inS t = inS s := funext (fun x => propext (by unfold inS; rw [fm_c F h]))
def SOQ (x : Int) (n : Int) (s t : PS) : Prop := ∀ j : Nat, (j : Int) < n → iC t 230 j = if iC s 228 j = x then 1 else 0
theorem soq_up {x n e : Int} {s t u : PS} (h : SOQ x n s t) (n0 : 0 ≤ n) (hu : UPD 230 n e t u) (he : (iC s 228 n.toNat = x ∧ e = 1) ∨ (iC s 228 n.toNat ≠ x ∧ e = 0)) : SOQ x (n + 1) s u := fun j hj => by
  by_cases z : j = n.toNat
  · rw [z, hu.1]
    rcases he with ⟨a, b⟩ | ⟨a, b⟩
    · rw [if_pos a]; exact b
    · rw [if_neg a]; exact b
  · rw [hu.2 j z]; exact h j (by omega)
theorem soq_in {x : Int} {s t : PS} (h : SOQ x 128 s t) : inS t = pcS (pfM s) x := funext (fun c => propext (by
  unfold inS pcS
  constructor
  · intro q
    have z := h c.toNat (by have := q.1; omega)
    refine ⟨q.1, Classical.byContradiction (fun n => q.2 ?_)⟩
    rw [z]; exact if_neg n
  · intro q
    have z := h c.toNat (by have := q.1; omega)
    refine ⟨q.1, ?_⟩
    rw [z, if_pos q.2]; decide))
def NHC (f : Nat → Int) (x n : Int) : Prop := ∀ j : Nat, (j : Int) < n → f j ≠ x
theorem nhc_up {f : Nat → Int} {x n : Int} (h : NHC f x n) (n0 : 0 ≤ n) (hn : f n.toNat ≠ x) : NHC f x (n + 1) := fun j hj => by
  by_cases z : j = n.toNat
  · rw [z]; exact hn
  · exact h j (by omega)
theorem nhc_e {f : Nat → Int} {x n : Int} (h : NHC f x n) (hn : n = 128) : HCE (pcS f x) 0 := Or.inr ⟨rfl, fun ⟨c, hc⟩ => h c.toNat (by have := hc.1; omega) hc.2⟩
theorem hce_y {f : Nat → Int} {x n : Int} (h0 : 0 ≤ n ∧ n ≤ 127) (h : f n.toNat = x) : HCE (pcS f x) 1 := Or.inl ⟨rfl, n, h0, h⟩
/-- the peaks by quarters -/
def PKM (f : Nat → Int) (g q : Int) : Prop := q = 0 ∨ (1 ≤ q ∧ g = pkF f (q - 1).toNat)
theorem pkm_0 {f : Nat → Int} {g : Int} : PKM f g 0 := Or.inl rfl
theorem pkm_up {f : Nat → Int} {g q v e : Int} (h : PKM f g q) (q0 : 0 ≤ q) (hv : v = f q.toNat) (he : ((q = 0 ∨ g < v) ∧ e = v) ∨ (q ≠ 0 ∧ v ≤ g ∧ e = g)) : PKM f e (q + 1) := by
  refine Or.inr ⟨by omega, ?_⟩
  rw [show (q + 1 - 1).toNat = q.toNat by omega]
  rcases h with h | ⟨h1, h2⟩
  · have e0 : e = v := by omega
    rw [e0, hv, h]; rfl
  · obtain ⟨m, hm⟩ : ∃ m : Nat, q = (m : Int) + 1 := ⟨(q - 1).toNat, by omega⟩
    rw [show (q - 1).toNat = m by omega] at h2
    rw [show q.toNat = m + 1 by omega] at hv ⊢
    show e = if pkF f m < f (m + 1) then f (m + 1) else pkF f m
    rw [← h2, ← hv]
    by_cases c : g < v
    · rw [if_pos c]; omega
    · rw [if_neg c]; omega
theorem lq_of {U : AirD} {S : Int → Prop} {q : Nat} {e : Int} (hr : rng e) (h : Int32.ofInt e = uL U (nmH S (uW U) (uM U q) (uN U) 1)) : e = lqH U S q := by
  refine of_to hr ?_
  rw [h]
  unfold ldH
  rw [nmh_c (mo := uM U q) (mo' := moW U q (-1)) wye_rf (fun x _ => mow_1.symm)]
/-- steps' cost so far -/
noncomputable def scK (U : AirD) (f : Nat → Int) (x : Nat) (n : Nat) : Int := sm (fun y => uT U y * crsH f ((uW U).1 y) ((uW U).2 y - 1).toNat) x + uT U x * crsH f ((uW U).1 x) n
theorem sc_up {U : AirD} {f : Nat → Int} {x : Nat} {k m v : Int} (k1 : 1 ≤ k) (h : m = scK U f x (k - 1).toNat) (hv : (v = uT U x ∧ (f ((uW U).1 x (k - 1).toNat).toNat ≠ f ((uW U).1 x k.toNat).toNat ∨ f ((uW U).1 x (k - 1).toNat).toNat = -1)) ∨ (v = 0 ∧ ¬ (f ((uW U).1 x (k - 1).toNat).toNat ≠ f ((uW U).1 x k.toNat).toNat ∨ f ((uW U).1 x (k - 1).toNat).toNat = -1))) : m + v = scK U f x (k + 1 - 1).toNat := by
  rw [h, show (k + 1 - 1).toNat = (k - 1).toNat + 1 by omega]
  have ek : (k - 1).toNat + 1 = k.toNat := by omega
  unfold scK
  have e : crsH f ((uW U).1 x) ((k - 1).toNat + 1) = crsH f ((uW U).1 x) (k - 1).toNat + i01 (f ((uW U).1 x (k - 1).toNat).toNat ≠ f ((uW U).1 x ((k - 1).toNat + 1)).toNat ∨ f ((uW U).1 x (k - 1).toNat).toNat = -1) := rfl
  rw [e, ek, Int.mul_add]
  rcases hv with ⟨a, b⟩ | ⟨a, b⟩
  · rw [i01_t b, a, Int.mul_one]; omega
  · rw [i01_f b, a, Int.mul_zero]; omega
theorem sc_nx {U : AirD} {f : Nat → Int} {x k m : Int} (x0 : 0 ≤ x) (h : m = scK U f x.toNat (k - 1).toNat) (hk : k = (uW U).2 x.toNat) : m = scK U f (x + 1).toNat 0 := by
  rw [h, show (x + 1).toNat = x.toNat + 1 by omega, hk]
  unfold scK
  show _ = (sm (fun y => uT U y * crsH f ((uW U).1 y) ((uW U).2 y - 1).toNat) x.toNat + uT U x.toNat * crsH f ((uW U).1 x.toNat) ((uW U).2 x.toNat - 1).toNat) + uT U (x.toNat + 1) * 0
  rw [Int.mul_zero, Int.add_zero]
theorem sc_e {U : AirD} {f : Nat → Int} {x m : Int} (h : m = scK U f x.toNat 0) (hx : x = (uN U : Int)) : m = stpC U f := by
  rw [h, hx]
  unfold scK stpC
  show sm _ _ + uT U _ * 0 = _
  rw [Int.mul_zero, Int.add_zero, show ((uN U : Int)).toNat = uN U by omega]
/-- the model's peaks -/
def FPQ (U : AirD) (f : Nat → Int) (n : Int) (t : PS) : Prop := ∀ p : Nat, (p : Int) < n → iC t 233 p = pkH U (pcS f (p : Int))
theorem fpq_up {U : AirD} {f : Nat → Int} {n e : Int} {t u v : PS} (h : FPQ U f n t) (n0 : 0 ≤ n) (he : e = pkH U (pcS f n)) (h1 : SAM 233 t u) (h2 : UPD 233 n e u v) : FPQ U f (n + 1) v := fun p hp => by
  by_cases z : p = n.toNat
  · rw [z, h2.1, show ((n.toNat : Nat) : Int) = n by omega]; exact he
  · rw [h2.2 p z, h1]; exact h p (by omega)
/-- the best so far, as the model keeps it -/
def BSM (U : AirD) (f lim : Nat → Int) (i : Nat) (s : PS) : Prop := ∃ k, BSR U f lim i k (iI s 94) ∧ ((k = -1 ∧ iI s 92 = -1) ∨ (0 ≤ iI s 92 ∧ k = 8 * iI s 92 + iI s 93))
theorem bsm_s {U : AirD} {f lim : Nat → Int} {i : Nat} {s t : PS} (h : BSM U f lim i s) (e1 : iI t 94 = iI s 94) (e2 : iI t 92 = iI s 92) (e3 : iI t 93 = iI s 93) : BSM U f lim i t := by
  unfold BSM
  rw [e1, e2, e3]
  exact h
theorem bsm_0 {U : AirD} {f lim : Nat → Int} {s : PS} (h : CST U f (iI s 94)) (h1 : iI s 92 = -1) : BSM U f lim 0 s := ⟨-1, ⟨rfl, h⟩, Or.inl ⟨rfl, h1⟩⟩
theorem bsm_no {U : AirD} {f lim : Nat → Int} {c p : Nat} {s : PS} (h : BSM U f lim (8 * c + p) s) (hp : p < 8) (hn : ¬ (cndF f c (p : Int) ∧ goodF U f lim c (p : Int))) : BSM U f lim (8 * c + p + 1) s := by
  obtain ⟨k, a, b⟩ := h
  exact ⟨k, bsr_no a hp hn, b⟩
theorem bsm_up {U : AirD} {f lim : Nat → Int} {c p : Nat} {w : Int} {s t : PS} (h : BSM U f lim (8 * c + p) s) (hp : p < 8) (hc : cndF f c (p : Int)) (hg : goodF U f lim c (p : Int)) (hw : CST U (upF f c (p : Int)) w) (hu : (w < iI s 94 ∧ iI t 94 = w ∧ iI t 92 = (c : Int) ∧ iI t 93 = (p : Int)) ∨ (iI s 94 ≤ w ∧ iI t 94 = iI s 94 ∧ iI t 92 = iI s 92 ∧ iI t 93 = iI s 93)) : BSM U f lim (8 * c + p + 1) t := by
  obtain ⟨k, a, b⟩ := h
  rcases hu with ⟨u1, u2, u3, u4⟩ | ⟨u1, u2, u3, u4⟩
  · refine ⟨((8 * c + p : Nat) : Int), bsr_up a hp hc hg hw (Or.inl ⟨u1, rfl, u2⟩), Or.inr ⟨by omega, by omega⟩⟩
  · refine ⟨k, bsr_up a hp hc hg hw (Or.inr ⟨u1, rfl, u2⟩), ?_⟩
    rw [u3, u4]; exact b
theorem bsm_sh {U : AirD} {f lim : Nat → Int} {c p : Nat} {s : PS} (h : BSM U f lim (8 * c + p) s) (hf : f c = -1) : ∀ m : Nat, p + m ≤ 8 → BSM U f lim (8 * c + (p + m)) s
  | 0, _ => h
  | m + 1, hm => by
    have a := bsm_sh h hf m (by omega)
    exact bsm_no (p := p + m) a (by omega) (fun q => q.1.1 hf)
theorem hce_n {f : Nat → Int} {p e : Int} (h : HCE (pcS f p) e) (he : e = 0) (p0 : 0 ≤ p) : ¬ presF f p.toNat := by
  unfold presF
  rw [show ((p.toNat : Nat) : Int) = p by omega]
  exact h.elim (fun q => absurd (q.1.symm.trans he) (by decide)) (fun q => q.2)
theorem hce_p {f : Nat → Int} {p e : Int} (h : HCE (pcS f p) e) (he : e ≠ 0) (p0 : 0 ≤ p) : presF f p.toNat := by
  unfold presF
  rw [show ((p.toNat : Nat) : Int) = p by omega]
  exact h.elim (fun q => q.2) (fun q => absurd q.1 he)
theorem hge_y {S : Int → Prop} {e : Int} (h : HGE S e) (he : e ≠ 0) : HngT S := h.elim (fun q => q.2) (fun q => absurd q.1 he)
theorem hge_n {S : Int → Prop} {e : Int} (h : HGE S e) (he : e = 0) : ¬ HngT S := h.elim (fun q => absurd (q.1.symm.trans he) (by decide)) (fun q => q.2)
theorem cst_of {U : AirD} {f : Nat → Int} {e : Int} {s : PS} (h : FPQ U f 8 s) (hc : CSP (stpC U f) (presF f) (fun p => iC s 233 p) e) : CST U f e := csp_c hc (fun _ _ => Iff.rfl) (fun p hp _ => h p (by omega))
theorem fpq_mv {U : AirD} {f : Nat → Int} {x y o : Int} {s t : PS} (h : FPQ U f 8 s) (hx : 0 ≤ x ∧ x ≤ 127) (hy : f x.toNat = o) (o0 : 0 ≤ o) (y0 : 0 ≤ y) (h1 : ∀ j : Nat, (j : Int) ≠ o → (j : Int) ≠ y → iC t 233 j = iC s 233 j) (ho : iC t 233 o.toNat = pkH U (pcS (upF f x.toNat y) o)) (hp : iC t 233 y.toNat = pkH U (pcS (upF f x.toNat y) y)) : FPQ U (upF f x.toNat y) 8 t := fun p hp' => by
  by_cases e1 : (p : Int) = o
  · rw [e1, show p = o.toNat by omega]; exact ho
  · by_cases e2 : (p : Int) = y
    · rw [e2, show p = y.toNat by omega]; exact hp
    · rw [h1 p e1 e2, pcs_o (by omega) (by rw [hy]; exact e1) e2]; exact h p hp'
theorem upm_upd {s t : PS} {x y : Int} (h : UPD 228 x y s t) : pfM t = upF (pfM s) x.toNat y := funext (fun j => by
  show iC t 228 j = if j = x.toNat then y else iC s 228 j
  by_cases c : j = x.toNat
  · rw [if_pos c, c]; exact h.1
  · rw [if_neg c]; exact h.2 j c)
/-- a try of the model's is over -/
def TRJ (U : AirD) (x y : Int) (s t : PS) : Prop := pfM t = upF (pfM s) x.toNat y ∧ (∀ j : Nat, (j : Int) ≠ iC s 228 x.toNat → (j : Int) ≠ y → iC t 233 j = iC s 233 j) ∧ BSM U (pfM s) (fun j => iC s 229 j) (8 * x.toNat + y.toNat + 1) t
theorem trj_n {U : AirD} {x y : Int} {s t : PS} (hb : BSM U (pfM s) (fun j => iC s 229 j) (8 * x.toNat + y.toNat) s) (y0 : 0 ≤ y ∧ y ≤ 7) (h1 : pfM t = upF (pfM s) x.toNat y) (h2 : ∀ j : Nat, (j : Int) ≠ iC s 228 x.toNat → (j : Int) ≠ y → iC t 233 j = iC s 233 j) (e1 : iI t 94 = iI s 94) (e2 : iI t 92 = iI s 92) (e3 : iI t 93 = iI s 93) (hn : ¬ goodF U (pfM s) (fun j => iC s 229 j) x.toNat y) : TRJ U x y s t := ⟨h1, h2, bsm_no (bsm_s hb e1 e2 e3) (by omega) (by rw [show ((y.toNat : Nat) : Int) = y by omega]; exact fun q => hn q.2)⟩
theorem trj_y {U : AirD} {x y w : Int} {s t : PS} (hb : BSM U (pfM s) (fun j => iC s 229 j) (8 * x.toNat + y.toNat) s) (x0 : 0 ≤ x) (y0 : 0 ≤ y ∧ y ≤ 7) (h1 : pfM t = upF (pfM s) x.toNat y) (h2 : ∀ j : Nat, (j : Int) ≠ iC s 228 x.toNat → (j : Int) ≠ y → iC t 233 j = iC s 233 j) (hc : cndF (pfM s) x.toNat y) (hg : goodF U (pfM s) (fun j => iC s 229 j) x.toNat y) (hw : CST U (upF (pfM s) x.toNat y) w) (hu : (w < iI s 94 ∧ iI t 94 = w ∧ iI t 92 = x ∧ iI t 93 = y) ∨ (iI s 94 ≤ w ∧ iI t 94 = iI s 94 ∧ iI t 92 = iI s 92 ∧ iI t 93 = iI s 93)) : TRJ U x y s t := by
  have ey : ((y.toNat : Nat) : Int) = y := by omega
  refine ⟨h1, h2, bsm_up (p := y.toNat) (w := w) hb (by omega) (by rw [ey]; exact hc) (by rw [ey]; exact hg) (by rw [ey]; exact hw) ?_⟩
  rw [ey, show ((x.toNat : Nat) : Int) = x by omega]
  exact hu
theorem trj_e {U : AirD} {x y : Int} {s t u : PS} (h : TRJ U x y s t) (h1 : UPD 228 x (iC s 228 x.toNat) t u) : SAM 228 s u := fun j => by
  have e : pfM u = pfM s := by
    rw [upm_upd h1, h.1, upf_up]; exact upf_id rfl
  exact congrFun e j
theorem trj_p {U : AirD} {x y a b : Int} {s t u v : PS} (h : TRJ U x y s t) (o0 : 0 ≤ iC s 228 x.toNat) (y0 : 0 ≤ y) (h1 : UPD 233 (iC s 228 x.toNat) a t u) (h2 : UPD 233 y b u v) (ha : a = iC s 233 (iC s 228 x.toNat).toNat) (hb : b = iC s 233 y.toNat) : SAM 233 s v := fun j => by
  by_cases e1 : j = y.toNat
  · rw [e1, h2.1, hb]
  · rw [h2.2 j e1]
    by_cases e2 : j = (iC s 228 x.toNat).toNat
    · rw [e2, h1.1, ha]
    · rw [h1.2 j e2]; exact h.2.1 j (by omega) (by omega)
/-- whether a cell beside c is of p, step by step -/
def CDQ (f : Nat → Int) (c p n iz : Int) : Prop := (iz = 0 ∨ iz = 1) ∧ (iz ≠ 0 ↔ ∃ d : Int, 0 ≤ d ∧ d < n ∧ besT c d ≠ -1 ∧ f (besT c d).toNat = p)
theorem cdq_0 {f : Nat → Int} {c p : Int} : CDQ f c p 0 0 := ⟨Or.inl rfl, fun h => absurd rfl h, fun ⟨d, d0, d1, _⟩ => by omega⟩
theorem cdq_up {f : Nat → Int} {c p n iz e b : Int} (h : CDQ f c p n iz) (n0 : 0 ≤ n) (hb : iz = 0 → b = besT c n) (he : (iz ≠ 0 ∧ e = 1) ∨ (iz = 0 ∧ b ≠ -1 ∧ f b.toNat = p ∧ e = 1) ∨ (iz = 0 ∧ (b = -1 ∨ f b.toNat ≠ p) ∧ e = 0)) : CDQ f c p (n + 1) e := by
  obtain ⟨h1, h2⟩ := h
  rcases he with ⟨a, z⟩ | ⟨a, a2, a3, z⟩ | ⟨a, a2, z⟩
  · refine ⟨Or.inr z, fun _ => ?_, fun _ => by omega⟩
    obtain ⟨d, d0, d1, d2⟩ := h2.mp a
    exact ⟨d, d0, by omega, d2⟩
  · rw [hb a] at a2 a3
    exact ⟨Or.inr z, fun _ => ⟨n, n0, by omega, a2, a3⟩, fun _ => by omega⟩
  · rw [hb a] at a2
    refine ⟨Or.inl z, fun q => absurd z q, fun ⟨d, d0, d1, d2, d3⟩ => ?_⟩
    by_cases e1 : d = n
    · rw [e1] at d2 d3
      exact a2.elim (fun q => absurd q d2) (fun q => absurd d3 q)
    · exact absurd (h2.mpr ⟨d, d0, by omega, d2, d3⟩) (by omega)
theorem cdq_c {f : Nat → Int} {c p iz : Int} (h : CDQ f c p 6 iz) (c0 : 0 ≤ c) (hf : f c.toNat ≠ -1) : cndF f c.toNat p ↔ iz ≠ 0 ∧ p ≠ f c.toNat := by
  unfold cndF
  rw [h.2, show ((c.toNat : Nat) : Int) = c by omega]
  constructor
  · rintro ⟨_, q, d, d0, d1, d2⟩
    exact ⟨⟨d, d0, by omega, d2⟩, q⟩
  · rintro ⟨⟨d, d0, d1, d2⟩, q⟩
    exact ⟨hf, q, d, d0, by omega, d2⟩
theorem bsm_c {U : AirD} {f f' lim lim' : Nat → Int} {i j : Nat} {s : PS} (h : BSM U f lim i s) (e1 : f = f') (e2 : lim = lim') (e3 : i = j) : BSM U f' lim' j s := by subst e1 e2 e3; exact h
theorem fpq_s {U : AirD} {f f' : Nat → Int} {n : Int} {s t : PS} (h : FPQ U f n s) (e : f = f') (h1 : SAM 233 s t) : FPQ U f' n t := by subst e; exact fun p hp => (h1 p).trans (h p hp)
section M87w
variable {l : Launch} {s0 : State} {D : va_G} {tys : List (ClassId × FieldType)} {a0 : Array Value} {A : Nat → Nat} {dT : Nat → ClassId} {s : PS}
set_option maxRecDepth 4000 in
theorem k_readsAt3 (G : GX l s0 D tys a0 dT) (I : Bd s) {x : Int} (p0 : 0 ≤ x ∧ x ≤ 380) : CT l s0 D A dT 216 (rmN 216) [.ref (A 179), .int (Int32.ofInt x)] s (fun o t => Bd t ∧ Fm [81, 75, 77, 78, 79] [] s t ∧ o = .inl none ∧ (iI t 77 = x ∧ iI t 78 = 0 ∧ iI t 79 = 0 ∧ iI t 81 = 1 ∧ iI t 75 = iI s 82)) := by
  refine ct_of G (by decide) (Nat.le_of_ble_eq_true rfl) (fun k X E hRt hXt q => ?_)
  show WS k 0 [(0, .ref (A 179)), (1, .int (Int32.ofInt x))] [] _ 0 0
  have F : Fm [81, 75, 77, 78, 79] [] s s := fm_rf _ _ s
  have b1 := bi_77 I
  have b2 := bi_78 I
  have b3 := bi_79 I
  have b4 := bi_81 I
  have b5 := bi_75 I
  have b6 := bi_82 I
  refine z_aload_n X (x := A 179) rfl (List.Mem.head _) (z_const X rfl (s_putI X 179 rfl (c518_ok rfl) rfl rfl (by decide) rfl rfl rfl (wd_gen (fun s7 hs7 => ?_))))
  have Is7 : Bd s7 := eqB hs7 (bd_I I (show (0 : Int) ≤ 1 ∧ 1 ≤ 1 by first | exact ⟨by decide, by decide⟩ | omega) (by decide))
  have Fs7 := eqF hs7 (fm_I F (inl_ok (a := 81) rfl))
  have vs7 : iI s7 81 = 1 := eqI hs7 (iI_u (by decide))
  have ws7_77 : iI s7 77 = iI s 77 := eqI hs7 rfl
  have ws7_78 : iI s7 78 = iI s 78 := eqI hs7 rfl
  have ws7_79 : iI s7 79 = iI s 79 := eqI hs7 rfl
  have ws7_75 : iI s7 75 = iI s 75 := eqI hs7 rfl
  have ws7_82 : iI s7 82 = iI s 82 := eqI hs7 rfl
  refine z_aload_n X (x := A 179) rfl (List.Mem.head _) (z_aload_n X (x := A 179) rfl (List.Mem.head _) (z_getI X 179 rfl (c518_ok rfl) rfl rfl ?_))
  have b8 := bi_82 Is7
  refine s_putI X 179 rfl (c518_ok rfl) rfl rfl (by decide) rfl rfl rfl (wd_gen (fun s9 hs9 => ?_))
  have Is9 : Bd s9 := eqB hs9 (bd_I Is7 (show (0 : Int) ≤ (iI s7 82) ∧ (iI s7 82) ≤ 200 by first | exact ⟨b8.1, b8.2⟩ | omega) (rng_to _))
  have Fs9 := eqF hs9 (fm_I Fs7 (inl_ok (a := 75) rfl))
  have vs9 : iI s9 75 = (iI s7 82) := eqI hs9 (iI_u (rng_to _))
  have ws9_77 : iI s9 77 = iI s7 77 := eqI hs9 rfl
  have ws9_78 : iI s9 78 = iI s7 78 := eqI hs9 rfl
  have ws9_79 : iI s9 79 = iI s7 79 := eqI hs9 rfl
  have ws9_81 : iI s9 81 = iI s7 81 := eqI hs9 rfl
  have ws9_82 : iI s9 82 = iI s7 82 := eqI hs9 rfl
  refine z_aload_n X (x := A 179) rfl (List.Mem.head _) (z_load_n X (x := x) rfl (List.Mem.tail _ (List.Mem.head _)) (s_putI X 179 rfl (c518_ok rfl) rfl rfl (by decide) rfl rfl rfl (wd_gen (fun s10 hs10 => ?_))))
  have Is10 : Bd s10 := eqB hs10 (bd_I Is9 (show (0 : Int) ≤ x ∧ x ≤ 400 by first | exact ⟨p0.1, oq_6c55e2f6 p0.2⟩ | omega) ⟨by first | exact oq_fa4e5087 p0.1 | omega, by first | exact oq_5d668942 p0.2 | omega⟩)
  have Fs10 := eqF hs10 (fm_I Fs9 (inl_ok (a := 77) rfl))
  have vs10 : iI s10 77 = x := eqI hs10 (iI_u ⟨by first | exact oq_fa4e5087 p0.1 | omega, by first | exact oq_5d668942 p0.2 | omega⟩)
  have ws10_78 : iI s10 78 = iI s9 78 := eqI hs10 rfl
  have ws10_79 : iI s10 79 = iI s9 79 := eqI hs10 rfl
  have ws10_81 : iI s10 81 = iI s9 81 := eqI hs10 rfl
  have ws10_75 : iI s10 75 = iI s9 75 := eqI hs10 rfl
  have ws10_82 : iI s10 82 = iI s9 82 := eqI hs10 rfl
  refine z_aload_n X (x := A 179) rfl (List.Mem.head _) (z_const X rfl (s_putI X 179 rfl (c518_ok rfl) rfl rfl (by decide) rfl rfl rfl (wd_gen (fun s11 hs11 => ?_))))
  have Is11 : Bd s11 := eqB hs11 (bd_I Is10 (show (0 : Int) ≤ 0 ∧ 0 ≤ 8 by first | exact ⟨by decide, by decide⟩ | omega) (by decide))
  have Fs11 := eqF hs11 (fm_I Fs10 (inl_ok (a := 78) rfl))
  have vs11 : iI s11 78 = 0 := eqI hs11 (iI_u (by decide))
  have ws11_77 : iI s11 77 = iI s10 77 := eqI hs11 rfl
  have ws11_79 : iI s11 79 = iI s10 79 := eqI hs11 rfl
  have ws11_81 : iI s11 81 = iI s10 81 := eqI hs11 rfl
  have ws11_75 : iI s11 75 = iI s10 75 := eqI hs11 rfl
  have ws11_82 : iI s11 82 = iI s10 82 := eqI hs11 rfl
  refine z_aload_n X (x := A 179) rfl (List.Mem.head _) (z_const X rfl (s_putI X 179 rfl (c518_ok rfl) rfl rfl (by decide) rfl rfl rfl (wd_gen (fun s12 hs12 => ?_))))
  have Is12 : Bd s12 := eqB hs12 (bd_I Is11 (show (0 : Int) ≤ 0 ∧ 0 ≤ 9 by first | exact ⟨by decide, by decide⟩ | omega) (by decide))
  have Fs12 := eqF hs12 (fm_I Fs11 (inl_ok (a := 79) rfl))
  have vs12 : iI s12 79 = 0 := eqI hs12 (iI_u (by decide))
  have ws12_77 : iI s12 77 = iI s11 77 := eqI hs12 rfl
  have ws12_78 : iI s12 78 = iI s11 78 := eqI hs12 rfl
  have ws12_81 : iI s12 81 = iI s11 81 := eqI hs12 rfl
  have ws12_75 : iI s12 75 = iI s11 75 := eqI hs12 rfl
  have ws12_82 : iI s12 82 = iI s11 82 := eqI hs12 rfl
  exact w_vret X.1 q hRt (ax_d X (show cdA 216 28 = some (.return_, 1, 0, 0, 0) from rfl)) (Nat.zero_le _) (Nat.zero_le _) ⟨_, rfl, Is12, Fs12, rfl, by first | exact ⟨oq_d0d2714e ws12_77 vs10 ws11_77, oq_e5e5d3d6 ws12_78 vs11, vs12, oq_87a00ba2 ws12_81 ws11_81 ws10_81 ws9_81 vs7, oq_b4d295d9 ws12_75 ws7_82 ws11_75 ws10_75 vs9⟩ | omega⟩
set_option maxRecDepth 4000 in
theorem k_numbers3 (G : GX l s0 D tys a0 dT) {U : AirD} (I : Bd s) (jMDJ : MDJ U s) {x : Int} (p0 : 0 ≤ x ∧ x ≤ 23) : CT l s0 D A dT 224 (rmN 224) [.ref (A 179), .int (Int32.ofInt x)] s (fun o t => Bd t ∧ Fm [] [203] s t ∧ o = .inl none ∧ (NMQ (uM U (x : Int).toNat) (uN U : Int) t)) := by
  refine ct_of G (by decide) (Nat.le_of_ble_eq_true rfl) (fun k X E hRt hXt q => ?_)
  show WS k 0 [(0, .ref (A 179)), (1, .int (Int32.ofInt x))] [] _ 0 0
  have F : Fm [] [203] s s := fm_rf _ _ s
  have b1 := bi_90 I
  have L2 : ∀ (n : Nat) (t : PS) (xv c : Int), Bd t → Fm [] [203] s t → MDJ U t → (NMQ (uM U (x : Int).toNat) c t) → ((xv = x ∧ 0 ≤ xv ∧ xv ≤ 23) ∧ 0 ≤ c ∧ c ≤ iI s 90 ∧ iI s 90 ≤ 12 ∧ iI t 90 = iI s 90) → (12 - c : Int).toNat < n → (∀ (t' : PS) (c' : Int), Bd t' → Fm [] [203] s t' → MDJ U t' → (NMQ (uM U (x : Int).toNat) c' t') → (c' = iI s 90) → WS k 28 [(0, .ref (A 179)), (1, .int (Int32.ofInt xv)), (2, .int (Int32.ofInt c'))] [] (Wd A dT t') 0 0) → WS k 2 [(0, .ref (A 179)), (1, .int (Int32.ofInt xv)), (2, .int (Int32.ofInt c))] [] (Wd A dT t) 0 0 := by
    intro n
    induction n with
    | zero =>
      intro t xv c I F jjMDJ hq hi hm kx
      exact absurd hm (Nat.not_lt_zero _)
    | succ n ih =>
      intro t xv c I F jjMDJ hq hi hm kx
      have b1001 := bi_90 I
      refine z_load_n X (x := c) rfl (List.Mem.tail _ (List.Mem.tail _ (List.Mem.head _))) (z_aload_n X (x := A 179) rfl (List.Mem.head _) (z_getI X 179 rfl (c518_ok rfl) rfl rfl ?_))
      have b1002 := bi_90 I
      refine z_icmp_ge X (t := 28) rfl rfl ⟨by first | exact oq_fa4e5087 hi.2.1 | omega, by first | exact oq_39d2cc6e hi.2.2.1 hi.2.2.2.1 | omega⟩ (rng_to _) (fun g1003 => ?_) (fun g1003 => ?_)
      ·
        refine WS_pq [0, 1, 2] (lv' := [(0, .ref (A 179)), (1, .int (Int32.ofInt xv)), (2, .int (Int32.ofInt c))]) rfl ?_
        exact kx _ c I F jjMDJ hq (by first | exact oq_537ca82a hi.2.2.1 g1003 hi.2.2.2.2 | omega)
      ·
        refine z_aload_n X (x := A 179) rfl (List.Mem.head _) (s_getR X 179 rfl (c518_ok rfl) rfl rfl (z_load_n X (x := c) rfl (List.Mem.tail _ (List.Mem.tail _ (List.Mem.head _))) (z_aload_n X (x := A 179) rfl (List.Mem.head _) (z_load_n X (x := c) rfl (List.Mem.tail _ (List.Mem.tail _ (List.Mem.head _))) (z_load_n X (x := xv) rfl (List.Mem.tail _ (List.Mem.head _)) (zcV_i0 X E 179 (As := [.int (Int32.ofInt c), .int (Int32.ofInt xv)]) (st := [.int (Int32.ofInt c), .ref (A 229)]) rfl rfl rfl rfl (k_mostOf2 G I (by first | exact ⟨hi.2.1, oq_e4d7f3c5 g1003 b1002.2⟩ | omega) (by first | exact ⟨hi.1.2.1, hi.1.2.2⟩ | omega)) rfl (Nat.le_of_ble_eq_true rfl) (fun s1004 e1005 Is1004 Fs1004 hrs1004 hps1004 => ?_)))))))
        have Gs1004 := fm_tq F Fs1004 rfl rfl
        have JMDJ_s1004 : MDJ U s1004 := MDJ_fm Fs1004 (by decide) jjMDJ
        have ws1004_90 : iI s1004 90 = iI t 90 := fm_iq Fs1004 rfl
        have aws1004_203 : SAM 203 t s1004 := sam_ts (sam_rf (a := 203) (s := t)) (sam_fm Fs1004 (by decide))
        refine z_ast X 229 rfl (c518_ok rfl) rfl (by first | exact hi.2.1 | omega) (show c < 12 by first | exact oq_f36e82a8 g1003 b1002.2 | omega) (cbig_ok rfl) (wd_gen (fun s1006 hs1006 => ?_))
        have Is1006 : Bd s1006 := eqB hs1006 (bd_C Is1004 (show (0 : Int) ≤ e1005 ∧ e1005 ≤ 50 by first | exact ⟨hps1004.1, hps1004.2.1⟩ | omega) hrs1004)
        have Fs1006 := eqF hs1006 (fm_C Gs1004 (inl_ok (a := 203) rfl))
        have ws1006_90 : iI s1006 90 = iI s1004 90 := eqI hs1006 rfl
        have aws1006_203 : UPD 203 (c) e1005 t s1006 := by rw [hs1006]; exact upd_put aws1004_203 hrs1004
        have fs1006 : Fm [] [203] s1004 s1006 := by rw [hs1006]; exact fm_C (fm_rf _ _ _) (show 203 ∈ _ by decide)
        have JMDJ_s1006 : MDJ U s1006 := MDJ_fm fs1006 (by decide) JMDJ_s1004
        refine z_inc X (x := c) (lv' := [(2, .int (Int32.ofInt (c + 1))), (0, .ref (A 179)), (1, .int (Int32.ofInt xv))]) rfl (by decide) (List.Mem.tail _ (List.Mem.tail _ (List.Mem.head _))) (fun _ h => h) (z_goto X (t := 2) rfl rfl (WS_pq [1, 2, 0] (lv' := [(0, .ref (A 179)), (1, .int (Int32.ofInt xv)), (2, .int (Int32.ofInt (c + 1)))]) rfl ?_))
        exact ih _ xv (c + 1) Is1006 Fs1006 JMDJ_s1006 (nmq_up hq jjMDJ (by have w := jjMDJ.1.1; omega) (by omega) (by rw [show x = xv by omega]; exact hps1004.2.2) sam_rf aws1006_203) (by first | exact ⟨And.intro (hi.1.1) (And.intro (hi.1.2.1) (hi.1.2.2)), oq_54f49eb5 hi.2.1, oq_8a89b3ae g1003 hi.2.2.2.2, hi.2.2.2.1, oq_878618b1 ws1006_90 ws1004_90 hi.2.2.2.2⟩ | omega) (by first | exact qk_me hm (by decide) (oq_b575e8c1 g1003 b1002.2) | omega) kx
  refine z_const X rfl (z_store_n X (lv' := [(2, .int (Int32.ofInt 0)), (0, .ref (A 179)), (1, .int (Int32.ofInt x))]) rfl (by decide) (fun _ h => h) (WS_pq [1, 2, 0] (lv' := [(0, .ref (A 179)), (1, .int (Int32.ofInt x)), (2, .int (Int32.ofInt 0))]) rfl (L2 ((12 - 0 : Int).toNat + 1) s x 0 I F jMDJ (fun x hx => absurd hx (by omega)) (by first | exact ⟨And.intro (by decide) (And.intro (p0.1) (p0.2)), by decide, b1.1, b1.2, by decide⟩ | omega) (Nat.lt_succ_self _) ?_)))
  intro s2 x3 Is2 Fs2 JMDJ_s2 Qs2 hs2
  have b4 := bi_90 Is2
  exact w_vret X.1 q hRt (ax_d X (show cdA 224 28 = some (.return_, 1, 0, 0, 0) from rfl)) (Nat.zero_le _) (Nat.zero_le _) ⟨_, rfl, Is2, Fs2, rfl, (by have z := Qs2; rw [show x3 = (uN U : Int) by have w := jMDJ.1.1; omega] at z; exact z)⟩
set_option maxRecDepth 4000 in
theorem k_load3 (G : GX l s0 D tys a0 dT) {U : AirD} {mo : Nat → Int} (I : Bd s) (jNW : NW s) (jNWL : NWL s) (jMDJ : MDJ U s) (jNWE : NWE U s) (jNMQ : NMQ mo (uN U : Int) s)  : CT l s0 D A dT 228 (rmN 228) [.ref (A 179)] s (fun o t => Bd t ∧ Fm [77, 75, 78, 79, 80, 81] [161] s t ∧ ∃ e, o = .inl (some (.int (Int32.ofInt e))) ∧ rng e ∧ (Int32.ofInt e = uL U (nmH (inS s) (uW U) mo (uN U) (iI s 89)))) := by
  refine ct_of G (by decide) (Nat.le_of_ble_eq_true rfl) (fun k X E hRt hXt q => ?_)
  show WS k 0 [(0, .ref (A 179))] [] _ 0 0
  have F : Fm [77, 75, 78, 79, 80, 81] [161] s s := fm_rf _ _ s
  have b1 := bi_85 I
  have b2 := bi_82 I
  have b3 := bi_89 I
  refine z_aload_n X (x := A 179) rfl (List.Mem.head _) (zcV_v2 X E 179 (As := []) (st := []) rfl rfl rfl rfl (k_listen3 G I jNW jNWL ) rfl (Nat.le_of_ble_eq_true rfl) (fun s4 Is4 Fs4 JNW_s4 JNWL_s4 hps4 => ?_))
  have Gs4 := fm_tq F Fs4 rfl rfl
  have JNW_s4 : NW s4 := NW_fm Fs4 (by decide) jNW
  have JNWL_s4 : NWL s4 := NWL_fm Fs4 (by decide) jNWL
  have ws4_85 : iI s4 85 = iI s 85 := fm_iq Fs4 rfl
  have ws4_82 : iI s4 82 = iI s 82 := fm_iq Fs4 rfl
  have ws4_89 : iI s4 89 = iI s 89 := fm_iq Fs4 rfl
  have hnm := ml_names hps4 jNWE jNMQ jMDJ.1.1 jMDJ.2.2.1
  refine z_aload_n X (x := A 179) rfl (List.Mem.head _) (z_getI X 179 rfl (c518_ok rfl) rfl rfl ?_)
  have b6 := bi_85 Is4
  refine z_const X rfl (z_icmp_ne X (t := 35) rfl rfl (rng_to _) (by decide) (fun g7 => ?_) (fun g7 => ?_))
  ·
    obtain ⟨B, hLB⟩ := ldm_b jMDJ.2.2.2.2.2.2 (by first | (clear g7; omega) | omega)
    have hla : 0 ≤ iI s 85 ∧ iI s 85 ≤ iI s 82 := hLB.1
    refine z_aload_n X (x := A 179) rfl (List.Mem.head _) (z_aload_n X (x := A 179) rfl (List.Mem.head _) (z_getI X 179 rfl (c518_ok rfl) rfl rfl ?_))
    have b8 := bi_85 Is4
    refine zcV_v0 X E 179 (As := [.int (Int32.ofInt (iI s4 85))]) (st := []) rfl rfl rfl rfl (k_readsAt3 G Is4 (by first | exact ⟨oq_e4757433 ws4_85 hla.1, oq_8dae6a5a b8.2⟩ | omega)) rfl (Nat.le_of_ble_eq_true rfl) (fun s9 Is9 Fs9 hps9 => ?_)
    have Gs9 := fm_tq Gs4 Fs9 rfl rfl
    have ws9_85 : iI s9 85 = iI s4 85 := fm_iq Fs9 rfl
    have ws9_82 : iI s9 82 = iI s4 82 := fm_iq Fs9 rfl
    have ws9_89 : iI s9 89 = iI s4 89 := fm_iq Fs9 rfl
    have JF9 : FDB B (iI s 82) s9 := fdb_r (by first | (clear g7; omega) | omega) (by first | (clear g7; omega) | omega) (fun i => fm_c Gs9 (by decide)) hLB.2.1
    refine z_aload_n X (x := A 179) rfl (List.Mem.head _) (z_callV X 179 (rm := (rkR (3 * (7) + 2))) (As := []) (st := []) rfl rfl (by decide) rfl (by rw [E.1, E.2.1, E.2.2.1]; exact (k_sumr5 G (B := B) (N := iI s 82) 7).2.2 Is9 JF9 (by first | exact oq_cc309cab hps9.1 b8.2 | omega) (by first | exact oq_dfaa262d hps9.2.1 | omega) (by first | exact oq_0cce41ba hps9.2.1 | omega)) ⟨by rw [E.2.2.2]; exact (show (12 + (3 * (7) + 2)) + 1 ≤ 36 from oq_74b74999), by rw [E.2.2.2]; exact (show 8 + (4 + 11) + (500 + 45 * (3 * (7) + 2)) ≤ 1558 from oq_f4197522), by rw [E.2.2.2]; exact Nat.le_refl 0, by rw [E.2.2.2]; exact Nat.le_refl 0⟩ (Nat.le_of_ble_eq_true rfl) (fun vv s11 hq => ?_) (fun ee s11 hq => ?_))
    rotate_left
    · obtain ⟨Is11, Fs11, JFDB_s11, e12, hv, hrs11, hps11⟩ := hq; cases hv
    obtain ⟨Is11, Fs11, JFDB_s11, e12, hv, hrs11, hps11⟩ := hq
    cases hv
    have Gs11 := fm_tq Gs9 Fs11 rfl rfl
    have JFDB_s11 : FDB B (iI s 82) s11 := FDB_fm Fs11 (by decide) JF9
    have ws11_85 : iI s11 85 = iI s9 85 := fm_iq Fs11 rfl
    have ws11_82 : iI s11 82 = iI s9 82 := fm_iq Fs11 rfl
    have ws11_89 : iI s11 89 = iI s9 89 := fm_iq Fs11 rfl
    show WS k 47 [(0, .ref (A 179))] [.int (Int32.ofInt e12)] (Wd A dT s11) 0 0
    exact w_iret X.1 q hRt rfl (ax_d X (show cdA 228 47 = some (.ireturn, 1, 0, 0, 0) from rfl)) (Nat.zero_le _) (Nat.zero_le _) ⟨_, rfl, Is11, Gs11, e12, rfl, hrs11, (ml_ld1 (t := s4) (u := s9) hnm hLB (nmr_fm Fs9 (by decide)) (by first | (clear hps11 g7; omega) | (clear g7; omega) | omega) (by first | (clear hps11 g7; omega) | (clear g7; omega) | omega) (by first | (clear hps11 g7; omega) | (clear g7; omega) | omega) hps11.2.2.2.2.2)⟩
  ·
    refine z_aload_n X (x := A 179) rfl (List.Mem.head _) (s_getR X 179 rfl (c518_ok rfl) rfl rfl (z_const X rfl (z_ald X 184 rfl (c518_ok rfl) rfl (by decide) (show 0 < 7 by decide) (cbig_ok rfl) ?_)))
    have b13 := bc_161 Is4 (show (0 : Int).toNat < 7 by first | exact oq_e8ec3fa8 | omega)
    refine z_const X rfl (z_aload_n X (x := A 179) rfl (List.Mem.head _) (s_getR X 179 rfl (c518_ok rfl) rfl rfl (z_const X rfl (z_ald X 184 rfl (c518_ok rfl) rfl (by decide) (show 1 < 7 by decide) (cbig_ok rfl) ?_))))
    have b14 := bc_161 Is4 (show (1 : Int).toNat < 7 by first | exact oq_a32b659c | omega)
    refine z_mul X rfl (z_anyV (fun y15 hy15 ey15 => ?_))
    refine z_add X rfl (z_anyV (fun y16 hy16 ey16 => ?_))
    refine z_aload_n X (x := A 179) rfl (List.Mem.head _) (s_getR X 179 rfl (c518_ok rfl) rfl rfl (z_const X rfl (z_ald X 184 rfl (c518_ok rfl) rfl (by decide) (show 2 < 7 by decide) (cbig_ok rfl) ?_)))
    have b17 := bc_161 Is4 (show (2 : Int).toNat < 7 by first | exact oq_62527c24 | omega)
    refine z_add X rfl (z_anyV (fun y18 hy18 ey18 => ?_))
    exact w_iret X.1 q hRt rfl (ax_d X (show cdA 228 34 = some (.ireturn, 1, 0, 0, 0) from rfl)) (Nat.zero_le _) (Nat.zero_le _) ⟨_, rfl, Is4, Gs4, y18, rfl, hy18, (ml_ld0 hnm jMDJ.2.2.2.2.2.2 (by omega) ey15 ey16 ey18)⟩
set_option maxRecDepth 4000 in
theorem k_setOf3 (G : GX l s0 D tys a0 dT) (I : Bd s) {x : Int} (p0 : rng x) : CT l s0 D A dT 230 (rmN 230) [.ref (A 179), .int (Int32.ofInt x)] s (fun o t => Bd t ∧ Fm [] [230] s t ∧ o = .inl none ∧ (SOQ x 128 s t)) := by
  refine ct_of G (by decide) (Nat.le_of_ble_eq_true rfl) (fun k X E hRt hXt q => ?_)
  show WS k 0 [(0, .ref (A 179)), (1, .int (Int32.ofInt x))] [] _ 0 0
  have F : Fm [] [230] s s := fm_rf _ _ s
  have L2 : ∀ (n : Nat) (t : PS) (xv c : Int), Bd t → Fm [] [230] s t → (SOQ x c s t) → ((xv = x ∧ rng xv) ∧ 0 ≤ c ∧ c ≤ 128) → (128 - c : Int).toNat < n → (∀ (t' : PS) (c' : Int), Bd t' → Fm [] [230] s t' → (SOQ x c' s t') → (c' = 128) → WS k 36 [(0, .ref (A 179)), (1, .int (Int32.ofInt xv)), (2, .int (Int32.ofInt c'))] [] (Wd A dT t') 0 0) → WS k 2 [(0, .ref (A 179)), (1, .int (Int32.ofInt xv)), (2, .int (Int32.ofInt c))] [] (Wd A dT t) 0 0 := by
    intro n
    induction n with
    | zero =>
      intro t xv c I F hq hi hm kx
      exact absurd hm (Nat.not_lt_zero _)
    | succ n ih =>
      intro t xv c I F hq hi hm kx
      refine z_load_n X (x := c) rfl (List.Mem.tail _ (List.Mem.tail _ (List.Mem.head _))) (z_sipush X rfl (z_icmp_ge X (t := 36) rfl rfl ⟨by first | exact oq_fa4e5087 hi.2.1 | omega, by first | exact oq_4ee82282 hi.2.2 | omega⟩ (by decide) (fun g1001 => ?_) (fun g1001 => ?_)))
      ·
        refine WS_pq [0, 1, 2] (lv' := [(0, .ref (A 179)), (1, .int (Int32.ofInt xv)), (2, .int (Int32.ofInt c))]) rfl ?_
        exact kx _ c I F hq (by first | exact oq_42fe298a hi.2.2 g1001 | omega)
      ·
        refine z_aload_n X (x := A 179) rfl (List.Mem.head _) (s_getR X 179 rfl (c518_ok rfl) rfl rfl (z_load_n X (x := c) rfl (List.Mem.tail _ (List.Mem.tail _ (List.Mem.head _))) (z_aload_n X (x := A 179) rfl (List.Mem.head _) (s_getR X 179 rfl (c518_ok rfl) rfl rfl (z_load_n X (x := c) rfl (List.Mem.tail _ (List.Mem.tail _ (List.Mem.head _))) (z_ald X 256 rfl (c518_ok rfl) rfl (by first | exact hi.2.1 | omega) (show c < 128 by first | exact g1001 | omega) (cbig_ok rfl) ?_))))))
        have b1002 := bc_228 I (show (c).toNat < 128 by first | exact oq_afb89947 g1001 | omega)
        refine z_load_n X (x := xv) rfl (List.Mem.tail _ (List.Mem.head _)) (z_icmp_ne X (t := 28) rfl rfl (rng_to _) ⟨by first | exact hi.1.2.1 | omega, by first | exact hi.1.2.2 | omega⟩ (fun g1003 => ?_) (fun g1003 => ?_))
        ·
          refine z_const X rfl (z_zast X 258 rfl (c518_ok rfl) rfl (by first | exact hi.2.1 | omega) (show c < 128 by first | exact g1001 | omega) (by decide) (by first | exact Or.inl (cbig_ok rfl) | omega) (wd_gen (fun s1004 hs1004 => ?_)))
          have Is1004 : Bd s1004 := eqB hs1004 (bd_C I (show (0 : Int) ≤ 0 ∧ 0 ≤ 1 by first | exact ⟨by decide, by decide⟩ | omega) (by decide))
          have Fs1004 := eqF hs1004 (fm_C F (inl_ok (a := 230) rfl))
          have aws1004_230 : UPD 230 (c) 0 t s1004 := by rw [hs1004]; exact upd_put (sam_rf (a := 230) (s := t)) (by decide)
          refine z_inc X (x := c) (lv' := [(2, .int (Int32.ofInt (c + 1))), (0, .ref (A 179)), (1, .int (Int32.ofInt xv))]) rfl (by decide) (List.Mem.tail _ (List.Mem.tail _ (List.Mem.head _))) (fun _ h => h) (z_goto X (t := 2) rfl rfl (WS_pq [1, 2, 0] (lv' := [(0, .ref (A 179)), (1, .int (Int32.ofInt xv)), (2, .int (Int32.ofInt (c + 1)))]) rfl ?_))
          exact ih _ xv (c + 1) Is1004 Fs1004 (soq_up hq (by first | (clear g1003; omega) | omega) aws1004_230 (by have z := (fm_c F (by decide) : iC t 228 (c : Int).toNat = iC s 228 (c : Int).toNat); omega)) (by first | exact ⟨And.intro (hi.1.1) (And.intro (hi.1.2.1) (hi.1.2.2)), oq_54f49eb5 hi.2.1, oq_d2afb425 g1001⟩ | omega) (by first | exact qk_me hm (by decide) (oq_c268b7bd g1001) | omega) kx
        ·
          refine z_const X rfl (z_goto X (t := 29) rfl rfl (z_zast X 258 rfl (c518_ok rfl) rfl (by first | exact hi.2.1 | omega) (show c < 128 by first | exact g1001 | omega) (by decide) (by first | exact Or.inr (cbig_ok rfl) | omega) (wd_gen (fun s1005 hs1005 => ?_))))
          have Is1005 : Bd s1005 := eqB hs1005 (bd_C I (show (0 : Int) ≤ 1 ∧ 1 ≤ 1 by first | exact ⟨by decide, by decide⟩ | omega) (by decide))
          have Fs1005 := eqF hs1005 (fm_C F (inl_ok (a := 230) rfl))
          have aws1005_230 : UPD 230 (c) 1 t s1005 := by rw [hs1005]; exact upd_put (sam_rf (a := 230) (s := t)) (by decide)
          refine z_inc X (x := c) (lv' := [(2, .int (Int32.ofInt (c + 1))), (0, .ref (A 179)), (1, .int (Int32.ofInt xv))]) rfl (by decide) (List.Mem.tail _ (List.Mem.tail _ (List.Mem.head _))) (fun _ h => h) (z_goto X (t := 2) rfl rfl (WS_pq [1, 2, 0] (lv' := [(0, .ref (A 179)), (1, .int (Int32.ofInt xv)), (2, .int (Int32.ofInt (c + 1)))]) rfl ?_))
          exact ih _ xv (c + 1) Is1005 Fs1005 (soq_up hq (by omega) aws1005_230 (by have z := (fm_c F (by decide) : iC t 228 (c : Int).toNat = iC s 228 (c : Int).toNat); omega)) (by first | exact ⟨And.intro (hi.1.1) (And.intro (hi.1.2.1) (hi.1.2.2)), oq_54f49eb5 hi.2.1, oq_d2afb425 g1001⟩ | omega) (by first | exact qk_me hm (by decide) (oq_c268b7bd g1001) | omega) kx
  refine z_const X rfl (z_store_n X (lv' := [(2, .int (Int32.ofInt 0)), (0, .ref (A 179)), (1, .int (Int32.ofInt x))]) rfl (by decide) (fun _ h => h) (WS_pq [1, 2, 0] (lv' := [(0, .ref (A 179)), (1, .int (Int32.ofInt x)), (2, .int (Int32.ofInt 0))]) rfl (L2 ((128 - 0 : Int).toNat + 1) s x 0 I F (fun j hj => absurd hj (by omega)) (by first | exact ⟨And.intro (by decide) (And.intro (p0.1) (p0.2)), by decide, by decide⟩ | omega) (Nat.lt_succ_self _) ?_)))
  intro s1 x2 Is1 Fs1 Qs1 hs1
  exact w_vret X.1 q hRt (ax_d X (show cdA 230 36 = some (.return_, 1, 0, 0, 0) from rfl)) (Nat.zero_le _) (Nat.zero_le _) ⟨_, rfl, Is1, Fs1, rfl, (by have z := Qs1; rw [show x2 = 128 by omega] at z; exact z)⟩
set_option maxRecDepth 4000 in
theorem k_has3 (G : GX l s0 D tys a0 dT) (I : Bd s) {x : Int} (p0 : rng x) : CT l s0 D A dT 233 (rmN 233) [.ref (A 179), .int (Int32.ofInt x)] s (fun o t => Bd t ∧ Fm [] [] s t ∧ ∃ e, o = .inl (some (.int (Int32.ofInt e))) ∧ rng e ∧ ((e = 0 ∨ e = 1) ∧ HCE (pcS (pfM s) x) e)) := by
  refine ct_of G (by decide) (Nat.le_of_ble_eq_true rfl) (fun k X E hRt hXt q => ?_)
  show WS k 0 [(0, .ref (A 179)), (1, .int (Int32.ofInt x))] [] _ 0 0
  have F : Fm [] [] s s := fm_rf _ _ s
  have L2 : ∀ (n : Nat) (t : PS) (xv c : Int), Bd t → Fm [] [] s t → (NHC (pfM s) x c) → ((xv = x ∧ rng xv) ∧ 0 ≤ c ∧ c ≤ 128) → (128 - c : Int).toNat < n → (∀ (t' : PS) (c' : Int), Bd t' → Fm [] [] s t' → (NHC (pfM s) x c') → (c' = 128) → WS k 27 [(0, .ref (A 179)), (1, .int (Int32.ofInt xv)), (2, .int (Int32.ofInt c'))] [] (Wd A dT t') 0 0) → WS k 2 [(0, .ref (A 179)), (1, .int (Int32.ofInt xv)), (2, .int (Int32.ofInt c))] [] (Wd A dT t) 0 0 := by
    intro n
    induction n with
    | zero =>
      intro t xv c I F hq hi hm kx
      exact absurd hm (Nat.not_lt_zero _)
    | succ n ih =>
      intro t xv c I F hq hi hm kx
      refine z_load_n X (x := c) rfl (List.Mem.tail _ (List.Mem.tail _ (List.Mem.head _))) (z_sipush X rfl (z_icmp_ge X (t := 27) rfl rfl ⟨by first | exact oq_fa4e5087 hi.2.1 | omega, by first | exact oq_4ee82282 hi.2.2 | omega⟩ (by decide) (fun g1001 => ?_) (fun g1001 => ?_)))
      ·
        refine WS_pq [0, 1, 2] (lv' := [(0, .ref (A 179)), (1, .int (Int32.ofInt xv)), (2, .int (Int32.ofInt c))]) rfl ?_
        exact kx _ c I F hq (by first | exact oq_42fe298a hi.2.2 g1001 | omega)
      ·
        refine z_aload_n X (x := A 179) rfl (List.Mem.head _) (s_getR X 179 rfl (c518_ok rfl) rfl rfl (z_load_n X (x := c) rfl (List.Mem.tail _ (List.Mem.tail _ (List.Mem.head _))) (z_ald X 256 rfl (c518_ok rfl) rfl (by first | exact hi.2.1 | omega) (show c < 128 by first | exact g1001 | omega) (cbig_ok rfl) ?_)))
        have b1002 := bc_228 I (show (c).toNat < 128 by first | exact oq_afb89947 g1001 | omega)
        refine z_load_n X (x := xv) rfl (List.Mem.tail _ (List.Mem.head _)) (z_icmp_ne X (t := 21) rfl rfl (rng_to _) ⟨by first | exact hi.1.2.1 | omega, by first | exact hi.1.2.2 | omega⟩ (fun g1003 => ?_) (fun g1003 => ?_))
        ·
          refine z_inc X (x := c) (lv' := [(2, .int (Int32.ofInt (c + 1))), (0, .ref (A 179)), (1, .int (Int32.ofInt xv))]) rfl (by decide) (List.Mem.tail _ (List.Mem.tail _ (List.Mem.head _))) (fun _ h => h) (z_goto X (t := 2) rfl rfl (WS_pq [1, 2, 0] (lv' := [(0, .ref (A 179)), (1, .int (Int32.ofInt xv)), (2, .int (Int32.ofInt (c + 1)))]) rfl ?_))
          exact ih _ xv (c + 1) I F (nhc_up hq (by first | (clear g1003; omega) | omega) (show iC s 228 (c : Int).toNat ≠ x by have z := (fm_c F List.not_mem_nil : iC t 228 (c : Int).toNat = iC s 228 (c : Int).toNat); omega)) (by first | exact ⟨And.intro (hi.1.1) (And.intro (hi.1.2.1) (hi.1.2.2)), oq_54f49eb5 hi.2.1, oq_d2afb425 g1001⟩ | omega) (by first | exact qk_me hm (by decide) (oq_c268b7bd g1001) | omega) kx
        ·
          refine z_const X rfl ?_
          exact w_iret X.1 q hRt (nar_ret (by first | exact Or.inr (by decide) | omega)) (ax_d X (show cdA 233 20 = some (.ireturn, 1, 0, 0, 0) from rfl)) (Nat.zero_le _) (Nat.zero_le _) ⟨_, rfl, I, F, 1, rfl, (by decide), ⟨Or.inr rfl, hce_y (n := c) (by omega) (by show iC s 228 (c : Int).toNat = x; have z := (fm_c F List.not_mem_nil : iC t 228 (c : Int).toNat = iC s 228 (c : Int).toNat); omega)⟩⟩
  refine z_const X rfl (z_store_n X (lv' := [(2, .int (Int32.ofInt 0)), (0, .ref (A 179)), (1, .int (Int32.ofInt x))]) rfl (by decide) (fun _ h => h) (WS_pq [1, 2, 0] (lv' := [(0, .ref (A 179)), (1, .int (Int32.ofInt x)), (2, .int (Int32.ofInt 0))]) rfl (L2 ((128 - 0 : Int).toNat + 1) s x 0 I F (fun j hj => absurd hj (by omega)) (by first | exact ⟨And.intro (by decide) (And.intro (p0.1) (p0.2)), by decide, by decide⟩ | omega) (Nat.lt_succ_self _) ?_)))
  intro s1 x2 Is1 Fs1 Qs1 hs1
  refine z_const X rfl ?_
  exact w_iret X.1 q hRt (nar_ret (by first | exact Or.inl (by decide) | omega)) (ax_d X (show cdA 233 28 = some (.ireturn, 1, 0, 0, 0) from rfl)) (Nat.zero_le _) (Nat.zero_le _) ⟨_, rfl, Is1, Fs1, 0, rfl, (by decide), ⟨Or.inl rfl, nhc_e Qs1 (by omega)⟩⟩
set_option maxRecDepth 4000 in
theorem k_whole3 (G : GX l s0 D tys a0 dT) (I : Bd s) {x : Int} (p0 : rng x) : CT l s0 D A dT 240 (rmN 240) [.ref (A 179), .int (Int32.ofInt x)] s (fun o t => Bd t ∧ Fm [] [231, 232, 230] s t ∧ ∃ e, o = .inl (some (.int (Int32.ofInt e))) ∧ rng e ∧ ((e = 0 ∨ e = 1) ∧ HGE (pcS (pfM s) x) e)) := by
  refine ct_of G (by decide) (Nat.le_of_ble_eq_true rfl) (fun k X E hRt hXt q => ?_)
  show WS k 0 [(0, .ref (A 179)), (1, .int (Int32.ofInt x))] [] _ 0 0
  have F : Fm [] [231, 232, 230] s s := fm_rf _ _ s
  refine z_aload_n X (x := A 179) rfl (List.Mem.head _) (z_load_n X (x := x) rfl (List.Mem.tail _ (List.Mem.head _)) (zcV_v0 X E 179 (As := [.int (Int32.ofInt x)]) (st := []) rfl rfl rfl rfl (k_setOf3 G I (by first | exact ⟨p0.1, p0.2⟩ | omega)) rfl (Nat.le_of_ble_eq_true rfl) (fun s1 Is1 Fs1 hps1 => ?_)))
  have Gs1 := fm_tq F Fs1 rfl rfl
  refine z_aload_n X (x := A 179) rfl (List.Mem.head _) (zcV_i0 X E 179 (As := []) (st := []) rfl rfl rfl rfl (k_hangs3 G Is1 ) rfl (Nat.le_of_ble_eq_true rfl) (fun s3 e4 Is3 Fs3 hrs3 hps3 => ?_))
  have hps3p := hps3.2
  have Gs3 := fm_tq Gs1 Fs3 rfl rfl
  exact w_iret X.1 q hRt (nar_ret (by first | exact hps3.1 | omega)) (ax_d X (show cdA 240 9 = some (.ireturn, 1, 0, 0, 0) from rfl)) (Nat.zero_le _) (Nat.zero_le _) ⟨_, rfl, Is3, Gs3, e4, rfl, hrs3, ⟨hps3.1, by rw [← soq_in hps1]; exact hps3.2⟩⟩
set_option maxRecDepth 4000 in
theorem k_peakSet3 (G : GX l s0 D tys a0 dT) {U : AirD} (I : Bd s) (jRLx : RLx s) (jMDJ : MDJ U s) (p0 : iI s 89 = 1) : CT l s0 D A dT 231 (rmN 231) [.ref (A 179)] s (fun o t => Bd t ∧ Fm [77, 75, 78, 79, 80, 81] [202, 204, 205, 206, 207, 208, 209, 210, 211, 212, 213, 214, 215, 216, 217, 218, 219, 220, 221, 222, 223, 224, 225, 226, 227, 203, 161] s t ∧ RLx t ∧ ∃ e, o = .inl (some (.int (Int32.ofInt e))) ∧ rng e ∧ (e = pkH U (inS s))) := by
  refine ct_of G (by decide) (Nat.le_of_ble_eq_true rfl) (fun k X E hRt hXt q => ?_)
  show WS k 0 [(0, .ref (A 179))] [] _ 0 0
  have F : Fm [77, 75, 78, 79, 80, 81] [202, 204, 205, 206, 207, 208, 209, 210, 211, 212, 213, 214, 215, 216, 217, 218, 219, 220, 221, 222, 223, 224, 225, 226, 227, 203, 161] s s := fm_rf _ _ s
  have b1 := bi_89 I
  have L8 : ∀ (n : Nat) (t : PS) (pk qq : Int), Bd t → Fm [77, 75, 78, 79, 80, 81] [202, 204, 205, 206, 207, 208, 209, 210, 211, 212, 213, 214, 215, 216, 217, 218, 219, 220, 221, 222, 223, 224, 225, 226, 227, 203, 161] s t → RLx t → MDJ U t → NQ t → NWL t → NWE U t → (PKM (lqH U (inS s)) pk qq) → (rng pk ∧ 0 ≤ qq ∧ qq ≤ 24 ∧ iI t 89 = 1) → (24 - qq : Int).toNat < n → (∀ (t' : PS) (pk' qq' : Int), Bd t' → Fm [77, 75, 78, 79, 80, 81] [202, 204, 205, 206, 207, 208, 209, 210, 211, 212, 213, 214, 215, 216, 217, 218, 219, 220, 221, 222, 223, 224, 225, 226, 227, 203, 161] s t' → RLx t' → MDJ U t' → NQ t' → NWL t' → NWE U t' → (PKM (lqH U (inS s)) pk' qq') → (rng pk' ∧ qq' = 24 ∧ iI t' 89 = 1) → WS k 45 [(0, .ref (A 179)), (1, .int (Int32.ofInt pk')), (2, .int (Int32.ofInt qq'))] [] (Wd A dT t') 0 0) → WS k 8 [(0, .ref (A 179)), (1, .int (Int32.ofInt pk)), (2, .int (Int32.ofInt qq))] [] (Wd A dT t) 0 0 := by
    intro n
    induction n with
    | zero =>
      intro t pk qq I F jjRLx jjMDJ jjNQ jjNWL jjNWE hq hi hm kx
      exact absurd hm (Nat.not_lt_zero _)
    | succ n ih =>
      intro t pk qq I F jjRLx jjMDJ jjNQ jjNWL jjNWE hq hi hm kx
      have b1001 := bi_89 I
      refine z_load_n X (x := qq) rfl (List.Mem.tail _ (List.Mem.tail _ (List.Mem.head _))) (z_bipush X rfl (z_icmp_ge X (t := 45) rfl rfl ⟨by first | exact oq_fa4e5087 hi.2.1 | omega, by first | exact oq_5bcd337f hi.2.2.1 | omega⟩ (by decide) (fun g1002 => ?_) (fun g1002 => ?_)))
      ·
        refine WS_pq [0, 1, 2] (lv' := [(0, .ref (A 179)), (1, .int (Int32.ofInt pk)), (2, .int (Int32.ofInt qq))]) rfl ?_
        exact kx _ pk qq I F jjRLx jjMDJ jjNQ jjNWL jjNWE hq (by first | exact ⟨And.intro (hi.1.1) (hi.1.2), oq_ea1742b3 hi.2.2.1 g1002, hi.2.2.2⟩ | omega)
      ·
        refine z_aload_n X (x := A 179) rfl (List.Mem.head _) (z_load_n X (x := qq) rfl (List.Mem.tail _ (List.Mem.tail _ (List.Mem.head _))) (zcV_v0 X E 179 (As := [.int (Int32.ofInt qq)]) (st := []) rfl rfl rfl rfl (k_numbers3 G I jjMDJ (by first | exact ⟨hi.2.1, oq_c69fe266 g1002⟩ | omega)) rfl (Nat.le_of_ble_eq_true rfl) (fun s1003 Is1003 Fs1003 hps1003 => ?_)))
        have Gs1003 := fm_tq F Fs1003 rfl rfl
        have JRLx_s1003 : RLx s1003 := RLx_fm Fs1003 (by decide) jjRLx
        have JMDJ_s1003 : MDJ U s1003 := MDJ_fm Fs1003 (by decide) jjMDJ
        have JNQ_s1003 : NQ s1003 := NQ_fm Fs1003 (by decide) jjNQ
        have JNWL_s1003 : NWL s1003 := NWL_fm Fs1003 (by decide) jjNWL
        have JNWE_s1003 : NWE U s1003 := NWE_fm Fs1003 (by decide) jjNWE
        have ws1003_89 : iI s1003 89 = iI t 89 := fm_iq Fs1003 rfl
        refine z_aload_n X (x := A 179) rfl (List.Mem.head _) ?_
        have JNW_s1003 : NW s1003 := NW_of JNQ_s1003 JRLx_s1003
        refine zcV_i0 X E 179 (As := []) (st := []) rfl rfl rfl rfl (k_load3 G Is1003 JNW_s1003 JNWL_s1003 JMDJ_s1003 JNWE_s1003 hps1003 ) rfl (Nat.le_of_ble_eq_true rfl) (fun s1005 e1006 Is1005 Fs1005 hrs1005 hps1005 => ?_)
        have Gs1005 := fm_tq Gs1003 Fs1005 rfl rfl
        have JRLx_s1005 : RLx s1005 := RLx_fm Fs1005 (by decide) JRLx_s1003
        have JMDJ_s1005 : MDJ U s1005 := MDJ_fm Fs1005 (by decide) JMDJ_s1003
        have JNQ_s1005 : NQ s1005 := NQ_fm Fs1005 (by decide) JNQ_s1003
        have JNWL_s1005 : NWL s1005 := NWL_fm Fs1005 (by decide) JNWL_s1003
        have JNWE_s1005 : NWE U s1005 := NWE_fm Fs1005 (by decide) JNWE_s1003
        have ws1005_89 : iI s1005 89 = iI s1003 89 := fm_iq Fs1005 rfl
        have hld : e1006 = lqH U (inS s) (qq : Int).toNat := lq_of hrs1005 (by have z := hps1005; rw [ins_fm Gs1003 (by decide), show iI s1003 89 = 1 by omega] at z; exact z)
        refine z_store_n X (lv' := [(3, .int (Int32.ofInt e1006)), (0, .ref (A 179)), (1, .int (Int32.ofInt pk)), (2, .int (Int32.ofInt qq))]) rfl (by decide) (fun _ h => h) (z_load_n X (x := qq) rfl (List.Mem.tail _ (List.Mem.tail _ (List.Mem.tail _ (List.Mem.head _)))) (z_if_eq X (t := 33) rfl rfl ⟨by first | exact oq_fa4e5087 hi.2.1 | omega, by first | exact oq_1d70227b g1002 | omega⟩ (fun g1007 => ?_) (fun g1007 => ?_)))
        ·
          refine z_load_n X (x := e1006) rfl (List.Mem.head _) (z_goto X (t := 38) rfl rfl (z_store_n X (lv' := [(1, .int (Int32.ofInt e1006)), (3, .int (Int32.ofInt e1006)), (0, .ref (A 179)), (2, .int (Int32.ofInt qq))]) rfl (by decide) (fun _ h => h) (z_inc X (x := qq) (lv' := [(2, .int (Int32.ofInt (qq + 1))), (1, .int (Int32.ofInt e1006)), (3, .int (Int32.ofInt e1006)), (0, .ref (A 179))]) rfl (by decide) (List.Mem.tail _ (List.Mem.tail _ (List.Mem.tail _ (List.Mem.head _)))) (fun _ h => h) (z_goto X (t := 8) rfl rfl (WS_pq [3, 1, 0] (lv' := [(0, .ref (A 179)), (1, .int (Int32.ofInt e1006)), (2, .int (Int32.ofInt (qq + 1)))]) rfl ?_)))))
          exact ih _ e1006 (qq + 1) Is1005 Gs1005 JRLx_s1005 JMDJ_s1005 JNQ_s1005 JNWL_s1005 JNWE_s1005 (pkm_up hq (by omega) hld (by omega)) (by first | exact ⟨by omega, oq_535341f0 g1007, oq_234775a9 g1007, oq_f34933ba ws1005_89 ws1003_89 hi.2.2.2 b1001.1⟩ | omega) (by first | exact qk_me hm (by decide) (oq_2cdd0178 g1007) | omega) kx
        ·
          refine z_load_n X (x := e1006) rfl (List.Mem.head _) (z_load_n X (x := pk) rfl (List.Mem.tail _ (List.Mem.tail _ (List.Mem.head _))) (z_icmp_le X (t := 37) rfl rfl hrs1005 ⟨by first | exact hi.1.1 | omega, by first | exact hi.1.2 | omega⟩ (fun g1008 => ?_) (fun g1008 => ?_)))
          ·
            refine z_load_n X (x := pk) rfl (List.Mem.tail _ (List.Mem.tail _ (List.Mem.head _))) (z_store_n X (lv' := [(1, .int (Int32.ofInt pk)), (3, .int (Int32.ofInt e1006)), (0, .ref (A 179)), (2, .int (Int32.ofInt qq))]) rfl (by decide) (fun _ h => h) (z_inc X (x := qq) (lv' := [(2, .int (Int32.ofInt (qq + 1))), (1, .int (Int32.ofInt pk)), (3, .int (Int32.ofInt e1006)), (0, .ref (A 179))]) rfl (by decide) (List.Mem.tail _ (List.Mem.tail _ (List.Mem.tail _ (List.Mem.head _)))) (fun _ h => h) (z_goto X (t := 8) rfl rfl (WS_pq [3, 1, 0] (lv' := [(0, .ref (A 179)), (1, .int (Int32.ofInt pk)), (2, .int (Int32.ofInt (qq + 1)))]) rfl ?_))))
            exact ih _ pk (qq + 1) Is1005 Gs1005 JRLx_s1005 JMDJ_s1005 JNQ_s1005 JNWL_s1005 JNWE_s1005 (pkm_up hq (by first | (clear g1007; omega) | omega) hld (by first | (clear g1007; omega) | omega)) (by first | exact ⟨And.intro (hi.1.1) (hi.1.2), oq_54f49eb5 hi.2.1, oq_cec7cb2e g1002, oq_f34933ba ws1005_89 ws1003_89 hi.2.2.2 b1001.1⟩ | omega) (by first | exact qk_me hm (by decide) (oq_ffa8317e g1002) | omega) kx
          ·
            refine z_load_n X (x := e1006) rfl (List.Mem.head _) (z_goto X (t := 38) rfl rfl (z_store_n X (lv' := [(1, .int (Int32.ofInt e1006)), (3, .int (Int32.ofInt e1006)), (0, .ref (A 179)), (2, .int (Int32.ofInt qq))]) rfl (by decide) (fun _ h => h) (z_inc X (x := qq) (lv' := [(2, .int (Int32.ofInt (qq + 1))), (1, .int (Int32.ofInt e1006)), (3, .int (Int32.ofInt e1006)), (0, .ref (A 179))]) rfl (by decide) (List.Mem.tail _ (List.Mem.tail _ (List.Mem.tail _ (List.Mem.head _)))) (fun _ h => h) (z_goto X (t := 8) rfl rfl (WS_pq [3, 1, 0] (lv' := [(0, .ref (A 179)), (1, .int (Int32.ofInt e1006)), (2, .int (Int32.ofInt (qq + 1)))]) rfl ?_)))))
            exact ih _ e1006 (qq + 1) Is1005 Gs1005 JRLx_s1005 JMDJ_s1005 JNQ_s1005 JNWL_s1005 JNWE_s1005 (pkm_up hq (by first | (clear g1007; omega) | omega) hld (by first | (clear g1007; omega) | omega)) (by first | exact ⟨by first | (clear g1007; omega) | omega, oq_54f49eb5 hi.2.1, oq_cec7cb2e g1002, oq_f34933ba ws1005_89 ws1003_89 hi.2.2.2 b1001.1⟩ | omega) (by first | exact qk_me hm (by decide) (oq_ffa8317e g1002) | omega) kx
  refine z_const X rfl (z_store_n X (lv' := [(1, .int (Int32.ofInt 0)), (0, .ref (A 179))]) rfl (by decide) (fun _ h => h) (z_aload_n X (x := A 179) rfl (List.Mem.tail _ (List.Mem.head _)) (zcV_v2 X E 179 (As := []) (st := []) rfl rfl rfl rfl (k_waysAsTold G I jRLx ) rfl (Nat.le_of_ble_eq_true rfl) (fun s2 Is2 Fs2 JRLx_s2 JNQ_s2 hps2 => ?_))))
  have Gs2 := fm_tq F Fs2 rfl rfl
  have JRLx_s2 : RLx s2 := RLx_fm Fs2 (by decide) jRLx
  have JMDJ_s2 : MDJ U s2 := MDJ_fm Fs2 (by decide) jMDJ
  have ws2_89 : iI s2 89 = iI s 89 := fm_iq Fs2 rfl
  have hNW9 := nq_w JMDJ_s2 JNQ_s2
  have hNE9 : NWE U s2 := ⟨JMDJ_s2.1.2, hNW9.1⟩
  refine z_const X rfl (z_store_n X (lv' := [(2, .int (Int32.ofInt 0)), (1, .int (Int32.ofInt 0)), (0, .ref (A 179))]) rfl (by decide) (fun _ h => h) (WS_pq [2, 1, 0] (lv' := [(0, .ref (A 179)), (1, .int (Int32.ofInt 0)), (2, .int (Int32.ofInt 0))]) rfl (L8 ((24 - 0 : Int).toNat + 1) s2 0 0 Is2 Gs2 JRLx_s2 JMDJ_s2 JNQ_s2 hNW9.2 hNE9 pkm_0 (by first | exact ⟨And.intro (by decide) (by decide), by decide, by decide, oq_b44a1c7f ws2_89 p0 b1.1⟩ | omega) (Nat.lt_succ_self _) ?_)))
  intro s4 x5 x6 Is4 Fs4 JRLx_s4 JMDJ_s4 JNQ_s4 JNWL_s4 JNWE_s4 Qs4 hs4
  have b7 := bi_89 Is4
  refine z_load_n X (x := x5) rfl (List.Mem.tail _ (List.Mem.head _)) ?_
  exact w_iret X.1 q hRt rfl (ax_d X (show cdA 231 46 = some (.ireturn, 1, 0, 0, 0) from rfl)) (Nat.zero_le _) (Nat.zero_le _) ⟨_, rfl, Is4, Fs4, JRLx_s4, x5, rfl, ⟨by first | exact hs4.1.1 | omega, by first | exact hs4.1.2 | omega⟩, (Qs4.elim (fun z => absurd z (by omega)) (fun z => by rw [z.2, show (x6 - 1 : Int).toNat = 23 by omega]; rfl))⟩
set_option maxRecDepth 4000 in
theorem k_peakPiece3 (G : GX l s0 D tys a0 dT) {U : AirD} (I : Bd s) (jRLx : RLx s) (jMDJ : MDJ U s) {x : Int} (p0 : rng x) (p1 : iI s 89 = 1) : CT l s0 D A dT 232 (rmN 232) [.ref (A 179), .int (Int32.ofInt x)] s (fun o t => Bd t ∧ Fm [77, 75, 78, 79, 80, 81] [202, 204, 205, 206, 207, 208, 209, 210, 211, 212, 213, 214, 215, 216, 217, 218, 219, 220, 221, 222, 223, 224, 225, 226, 227, 203, 161, 230] s t ∧ RLx t ∧ ∃ e, o = .inl (some (.int (Int32.ofInt e))) ∧ rng e ∧ (e = pkH U (pcS (pfM s) x))) := by
  refine ct_of G (by decide) (Nat.le_of_ble_eq_true rfl) (fun k X E hRt hXt q => ?_)
  show WS k 0 [(0, .ref (A 179)), (1, .int (Int32.ofInt x))] [] _ 0 0
  have F : Fm [77, 75, 78, 79, 80, 81] [202, 204, 205, 206, 207, 208, 209, 210, 211, 212, 213, 214, 215, 216, 217, 218, 219, 220, 221, 222, 223, 224, 225, 226, 227, 203, 161, 230] s s := fm_rf _ _ s
  have b1 := bi_89 I
  refine z_aload_n X (x := A 179) rfl (List.Mem.head _) (z_load_n X (x := x) rfl (List.Mem.tail _ (List.Mem.head _)) (zcV_v0 X E 179 (As := [.int (Int32.ofInt x)]) (st := []) rfl rfl rfl rfl (k_setOf3 G I (by first | exact ⟨p0.1, p0.2⟩ | omega)) rfl (Nat.le_of_ble_eq_true rfl) (fun s2 Is2 Fs2 hps2 => ?_)))
  have Gs2 := fm_tq F Fs2 rfl rfl
  have JRLx_s2 : RLx s2 := RLx_fm Fs2 (by decide) jRLx
  have JMDJ_s2 : MDJ U s2 := MDJ_fm Fs2 (by decide) jMDJ
  have ws2_89 : iI s2 89 = iI s 89 := fm_iq Fs2 rfl
  refine z_aload_n X (x := A 179) rfl (List.Mem.head _) (zcV_i1 X E 179 (As := []) (st := []) rfl rfl rfl rfl (k_peakSet3 G Is2 JRLx_s2 JMDJ_s2 (by first | exact oq_b44a1c7f ws2_89 p1 b1.1 | omega)) rfl (Nat.le_of_ble_eq_true rfl) (fun s4 e5 Is4 Fs4 JRLx_s4 hrs4 hps4 => ?_))
  have Gs4 := fm_tq Gs2 Fs4 rfl rfl
  have JRLx_s4 : RLx s4 := RLx_fm Fs4 (by decide) JRLx_s2
  have ws4_89 : iI s4 89 = iI s2 89 := fm_iq Fs4 rfl
  exact w_iret X.1 q hRt rfl (ax_d X (show cdA 232 9 = some (.ireturn, 1, 0, 0, 0) from rfl)) (Nat.zero_le _) (Nat.zero_le _) ⟨_, rfl, Is4, Gs4, JRLx_s4, e5, rfl, hrs4, (by rw [← soq_in hps2]; exact hps4)⟩
set_option maxRecDepth 4000 in
theorem k_steps3 (G : GX l s0 D tys a0 dT) {U : AirD} (I : Bd s) (jMDJ : MDJ U s)  : CT l s0 D A dT 249 (rmN 249) [.ref (A 179)] s (fun o t => Bd t ∧ Fm [] [] s t ∧ ∃ e, o = .inl (some (.int (Int32.ofInt e))) ∧ rng e ∧ (e = stpC U (pfM s))) := by
  refine ct_of G (by decide) (Nat.le_of_ble_eq_true rfl) (fun k X E hRt hXt q => ?_)
  show WS k 0 [(0, .ref (A 179))] [] _ 0 0
  have F : Fm [] [] s s := fm_rf _ _ s
  have b1 := bi_90 I
  have L14 : ∀ (n : Nat) (t : PS) (nn a ka : Int), Bd t → Fm [] [] s t → MDJ U t → (nn = scK U (pfM s) (a : Int).toNat (ka - 1 : Int).toNat) → ((0 ≤ nn ∧ nn ≤ 28800 * a + 1200 * ka) ∧ (0 ≤ a ∧ a ≤ 11 ∧ a < iI s 90) ∧ (1 ≤ ka ∧ ka ≤ 24) ∧ iI t 90 = iI s 90 ∧ ka ≤ (uW U).2 (a : Int).toNat) → (24 - ka : Int).toNat < n → (∀ (t' : PS) (nn' ka' : Int), Bd t' → Fm [] [] s t' → MDJ U t' → (nn' = scK U (pfM s) (a : Int).toNat (ka' - 1 : Int).toNat) → ((0 ≤ nn' ∧ nn' ≤ 28800 * a + 28800) ∧ (0 ≤ a ∧ a ≤ 11 ∧ a < iI s 90) ∧ iI t' 90 = iI s 90 ∧ ka' = (uW U).2 (a : Int).toNat) → WS k 87 [(0, .ref (A 179)), (1, .int (Int32.ofInt nn')), (2, .int (Int32.ofInt a)), (3, .int (Int32.ofInt ka'))] [] (Wd A dT t') 0 0) → WS k 14 [(0, .ref (A 179)), (1, .int (Int32.ofInt nn)), (2, .int (Int32.ofInt a)), (3, .int (Int32.ofInt ka))] [] (Wd A dT t) 0 0 := by
    intro n
    induction n with
    | zero =>
      intro t nn a ka I F jjMDJ hq hi hm kx
      exact absurd hm (Nat.not_lt_zero _)
    | succ n ih =>
      intro t nn a ka I F jjMDJ hq hi hm kx
      have b1001 := bi_90 I
      have hd0 := jjMDJ.1.1
      have hwk := (jjMDJ.2.2.1 (a : Int).toNat (by omega)).1
      have hm0 : iC t 162 (a : Int).toNat = (uW U).2 (a : Int).toNat := (jjMDJ.2.1 (a : Int).toNat (by omega)).1
      refine z_load_n X (x := ka) rfl (List.Mem.tail _ (List.Mem.tail _ (List.Mem.tail _ (List.Mem.head _)))) (z_aload_n X (x := A 179) rfl (List.Mem.head _) (s_getR X 179 rfl (c518_ok rfl) rfl rfl (z_load_n X (x := a) rfl (List.Mem.tail _ (List.Mem.tail _ (List.Mem.head _))) (z_ald X 185 rfl (c518_ok rfl) rfl (by first | exact hi.2.1.1 | omega) (show a < 12 by first | exact oq_0ddfcfee hi.2.1.2.1 | omega) (cbig_ok rfl) ?_))))
      have b1002 := bc_162 I (show (a).toNat < 12 by first | exact oq_9c5fa447 hi.2.1.2.1 | omega)
      refine z_icmp_ge X (t := 87) rfl rfl ⟨by first | exact oq_9462313e hi.2.2.1.1 | omega, by first | exact oq_5bcd337f hi.2.2.1.2 | omega⟩ (rng_to _) (fun g1003 => ?_) (fun g1003 => ?_)
      ·
        refine WS_pq [0, 1, 2, 3] (lv' := [(0, .ref (A 179)), (1, .int (Int32.ofInt nn)), (2, .int (Int32.ofInt a)), (3, .int (Int32.ofInt ka))]) rfl ?_
        exact kx _ nn ka I F jjMDJ hq (by first | exact ⟨And.intro (hi.1.1) (oq_daf052ec hi.1.2 hi.2.2.1.2), And.intro (hi.2.1.1) (And.intro (hi.2.1.2.1) (hi.2.1.2.2)), hi.2.2.2.1, oq_dae09544 hi.2.2.2.2 hm0 g1003⟩ | omega)
      ·
        have hd := jjMDJ.1.1
        have hw1 := (jjMDJ.2.1 (a : Int).toNat (by omega))
        have hm1 : iC t 162 (a : Int).toNat = (uW U).2 (a : Int).toNat := hw1.1
        refine z_aload_n X (x := A 179) rfl (List.Mem.head _) (s_getR X 179 rfl (c518_ok rfl) rfl rfl (z_aload_n X (x := A 179) rfl (List.Mem.head _) (s_getR X 179 rfl (c518_ok rfl) rfl rfl (z_load_n X (x := a) rfl (List.Mem.tail _ (List.Mem.tail _ (List.Mem.head _))) (z_aald X rw_189 rfl (by first | exact hi.2.1.1 | omega) (show a < 12 by first | exact oq_0ddfcfee hi.2.1.2.1 | omega) (by decide) (z_load_n X (x := ka) rfl (List.Mem.tail _ (List.Mem.tail _ (List.Mem.tail _ (List.Mem.head _)))) (z_const X rfl (z_sub X rfl (z_ald2 X rw_189 rfl (show (a : Int).toNat < 12 by first | exact oq_9c5fa447 hi.2.1.2.1 | omega) (by first | exact oq_02aa5459 hi.2.2.1.1 | omega) (show (ka - 1) < 24 by first | exact oq_19cb6f5b hi.2.2.1.2 | omega) (by decide) ?_)))))))))
        have b1004 : (0 : Int) ≤ (iC t (166 + (a : Int).toNat) ((ka - 1) : Int).toNat) ∧ (iC t (166 + (a : Int).toNat) ((ka - 1) : Int).toNat) ≤ 127 := rw_bd rw_189 I (show (a : Int).toNat < 12 by first | exact oq_9c5fa447 hi.2.1.2.1 | omega) (show ((ka - 1) : Int).toNat < 24 by first | exact oq_f976b25c hi.2.2.1.2 | omega)
        refine z_ald X 256 rfl (c518_ok rfl) rfl (by first | exact b1004.1 | omega) (show (iC t (166 + (a : Int).toNat) ((ka - 1) : Int).toNat) < 128 by first | exact oq_31b2bf10 b1004.2 | omega) (cbig_ok rfl) ?_
        have b1005 := bc_228 I (show ((iC t (166 + (a : Int).toNat) ((ka - 1) : Int).toNat)).toNat < 128 by first | exact oq_c7f4e9c1 b1004.2 | omega)
        refine z_store X (lv' := [(4, .int (Int32.ofInt (iC t 228 ((iC t (166 + (a : Int).toNat) ((ka - 1) : Int).toNat)).toNat))), (0, .ref (A 179)), (1, .int (Int32.ofInt nn)), (2, .int (Int32.ofInt a)), (3, .int (Int32.ofInt ka))]) rfl (by decide) (fun _ h => h) (z_aload_n X (x := A 179) rfl (List.Mem.tail _ (List.Mem.head _)) (s_getR X 179 rfl (c518_ok rfl) rfl rfl (z_aload_n X (x := A 179) rfl (List.Mem.tail _ (List.Mem.head _)) (s_getR X 179 rfl (c518_ok rfl) rfl rfl (z_load_n X (x := a) rfl (List.Mem.tail _ (List.Mem.tail _ (List.Mem.tail _ (List.Mem.head _)))) (z_aald X rw_189 rfl (by first | exact hi.2.1.1 | omega) (show a < 12 by first | exact oq_0ddfcfee hi.2.1.2.1 | omega) (by decide) (z_load_n X (x := ka) rfl (List.Mem.tail _ (List.Mem.tail _ (List.Mem.tail _ (List.Mem.tail _ (List.Mem.head _))))) (z_ald2 X rw_189 rfl (show (a : Int).toNat < 12 by first | exact oq_9c5fa447 hi.2.1.2.1 | omega) (by first | exact oq_2a6e3b50 hi.2.2.1.1 | omega) (show ka < 24 by first | exact oq_8ff7beb9 g1003 b1002.2 | omega) (by decide) ?_))))))))
        have b1006 : (0 : Int) ≤ (iC t (166 + (a : Int).toNat) (ka : Int).toNat) ∧ (iC t (166 + (a : Int).toNat) (ka : Int).toNat) ≤ 127 := rw_bd rw_189 I (show (a : Int).toNat < 12 by first | exact oq_9c5fa447 hi.2.1.2.1 | omega) (show (ka : Int).toNat < 24 by first | exact oq_9e668fc9 g1003 b1002.2 | omega)
        refine z_ald X 256 rfl (c518_ok rfl) rfl (by first | exact b1006.1 | omega) (show (iC t (166 + (a : Int).toNat) (ka : Int).toNat) < 128 by first | exact oq_31b2bf10 b1006.2 | omega) (cbig_ok rfl) ?_
        have b1007 := bc_228 I (show ((iC t (166 + (a : Int).toNat) (ka : Int).toNat)).toNat < 128 by first | exact oq_c7f4e9c1 b1006.2 | omega)
        refine z_store X (lv' := [(5, .int (Int32.ofInt (iC t 228 ((iC t (166 + (a : Int).toNat) (ka : Int).toNat)).toNat))), (4, .int (Int32.ofInt (iC t 228 ((iC t (166 + (a : Int).toNat) ((ka - 1) : Int).toNat)).toNat))), (0, .ref (A 179)), (1, .int (Int32.ofInt nn)), (2, .int (Int32.ofInt a)), (3, .int (Int32.ofInt ka))]) rfl (by decide) (fun _ h => h) ?_
        have hc1 : (uW U).1 (a : Int).toNat (ka - 1).toNat = iC t (166 + (a : Int).toNat) (ka - 1).toNat := (hw1.2 _ (by show ((((ka - 1).toNat : Nat) : Int)) < iC t 162 (a : Int).toNat; omega)).symm
        have hc2 : (uW U).1 (a : Int).toNat (ka : Int).toNat = iC t (166 + (a : Int).toNat) (ka : Int).toNat := (hw1.2 _ (by show ((((ka : Int).toNat : Nat) : Int)) < iC t 162 (a : Int).toNat; omega)).symm
        have hf : ∀ j, iC t 228 j = iC s 228 j := fun j => fm_c F List.not_mem_nil
        refine z_load_n X (x := nn) rfl (List.Mem.tail _ (List.Mem.tail _ (List.Mem.tail _ (List.Mem.head _)))) (z_load X (x := (iC t 228 ((iC t (166 + (a : Int).toNat) ((ka - 1) : Int).toNat)).toNat)) rfl (List.Mem.tail _ (List.Mem.head _)) (z_load X (x := (iC t 228 ((iC t (166 + (a : Int).toNat) (ka : Int).toNat)).toNat)) rfl (List.Mem.head _) (z_icmp_ne X (t := 70) rfl rfl (rng_to _) (rng_to _) (fun g1008 => ?_) (fun g1008 => ?_))))
        ·
          refine z_aload_n X (x := A 179) rfl (List.Mem.tail _ (List.Mem.tail _ (List.Mem.head _))) (z_load_n X (x := a) rfl (List.Mem.tail _ (List.Mem.tail _ (List.Mem.tail _ (List.Mem.tail _ (List.Mem.head _))))) (zcV_i0 X E 179 (As := [.int (Int32.ofInt a)]) (st := [.int (Int32.ofInt nn)]) rfl rfl rfl rfl (k_total2 G I (by first | exact ⟨hi.2.1.1, hi.2.1.2.1⟩ | omega)) rfl (Nat.le_of_ble_eq_true rfl) (fun s1009 e1010 Is1009 Fs1009 hrs1009 hps1009 => ?_)))
          have Gs1009 := fm_tq F Fs1009 rfl rfl
          have JMDJ_s1009 : MDJ U s1009 := MDJ_fm Fs1009 (by decide) jjMDJ
          have ws1009_90 : iI s1009 90 = iI t 90 := fm_iq Fs1009 rfl
          have htt : e1010 = uT U (a : Int).toNat := by have z := jjMDJ.2.2.2.2.2.1 (a : Int).toNat (by first | (clear g1008; omega) | omega); rw [show (((a : Int).toNat : Nat) : Int) = a by first | (clear g1008; omega) | omega] at z; rw [← z]; exact hps1009.2.2
          refine z_goto X (t := 79) rfl rfl (z_add X rfl (z_store_n X (lv' := [(1, .int (Int32.ofInt (nn + e1010))), (5, .int (Int32.ofInt (iC t 228 ((iC t (166 + (a : Int).toNat) (ka : Int).toNat)).toNat))), (4, .int (Int32.ofInt (iC t 228 ((iC t (166 + (a : Int).toNat) ((ka - 1) : Int).toNat)).toNat))), (0, .ref (A 179)), (2, .int (Int32.ofInt a)), (3, .int (Int32.ofInt ka))]) rfl (by decide) (fun _ h => h) (z_inc X (x := ka) (lv' := [(3, .int (Int32.ofInt (ka + 1))), (1, .int (Int32.ofInt (nn + e1010))), (5, .int (Int32.ofInt (iC t 228 ((iC t (166 + (a : Int).toNat) (ka : Int).toNat)).toNat))), (4, .int (Int32.ofInt (iC t 228 ((iC t (166 + (a : Int).toNat) ((ka - 1) : Int).toNat)).toNat))), (0, .ref (A 179)), (2, .int (Int32.ofInt a))]) rfl (by decide) (List.Mem.tail _ (List.Mem.tail _ (List.Mem.tail _ (List.Mem.tail _ (List.Mem.tail _ (List.Mem.head _)))))) (fun _ h => h) (z_goto X (t := 14) rfl rfl (WS_pq [4, 1, 5, 0] (lv' := [(0, .ref (A 179)), (1, .int (Int32.ofInt (nn + e1010))), (2, .int (Int32.ofInt a)), (3, .int (Int32.ofInt (ka + 1)))]) rfl ?_)))))
          exact ih _ (nn + e1010) a (ka + 1) Is1009 Gs1009 JMDJ_s1009 (sc_up (by first | (clear g1008; omega) | omega) hq (Or.inl ⟨htt, show (iC s 228 ((uW U).1 (a : Int).toNat (ka - 1).toNat).toNat ≠ iC s 228 ((uW U).1 (a : Int).toNat (ka : Int).toNat).toNat ∨ iC s 228 ((uW U).1 (a : Int).toNat (ka - 1).toNat).toNat = -1) by rw [hc1, hc2]; have z1 := hf (iC t (166 + (a : Int).toNat) (ka - 1).toNat).toNat; have z2 := hf (iC t (166 + (a : Int).toNat) (ka : Int).toNat).toNat; omega⟩)) (by first | exact ⟨And.intro (oq_dd29f52d hi.1.1 hps1009.1) (oq_3aa2babc hi.1.2 hps1009.2.1), And.intro (hi.2.1.1) (And.intro (hi.2.1.2.1) (hi.2.1.2.2)), And.intro (oq_1e1a2df6 hi.2.2.1.1) (oq_41473be0 g1003 b1002.2), oq_1aa5be9e ws1009_90 hi.2.2.2.1, oq_b1226e90 hm1 g1003⟩ | omega) (by first | exact qk_me hm (by decide) (oq_9dea93e6 g1003 b1002.2) | omega) kx
        ·
          refine z_load X (x := (iC t 228 ((iC t (166 + (a : Int).toNat) ((ka - 1) : Int).toNat)).toNat)) rfl (List.Mem.tail _ (List.Mem.head _)) (z_const X rfl (z_icmp_ne X (t := 78) rfl rfl (rng_to _) (by decide) (fun g1011 => ?_) (fun g1011 => ?_)))
          ·
            refine z_const X rfl (z_add X rfl (z_store_n X (lv' := [(1, .int (Int32.ofInt (nn + 0))), (5, .int (Int32.ofInt (iC t 228 ((iC t (166 + (a : Int).toNat) (ka : Int).toNat)).toNat))), (4, .int (Int32.ofInt (iC t 228 ((iC t (166 + (a : Int).toNat) ((ka - 1) : Int).toNat)).toNat))), (0, .ref (A 179)), (2, .int (Int32.ofInt a)), (3, .int (Int32.ofInt ka))]) rfl (by decide) (fun _ h => h) (z_inc X (x := ka) (lv' := [(3, .int (Int32.ofInt (ka + 1))), (1, .int (Int32.ofInt (nn + 0))), (5, .int (Int32.ofInt (iC t 228 ((iC t (166 + (a : Int).toNat) (ka : Int).toNat)).toNat))), (4, .int (Int32.ofInt (iC t 228 ((iC t (166 + (a : Int).toNat) ((ka - 1) : Int).toNat)).toNat))), (0, .ref (A 179)), (2, .int (Int32.ofInt a))]) rfl (by decide) (List.Mem.tail _ (List.Mem.tail _ (List.Mem.tail _ (List.Mem.tail _ (List.Mem.tail _ (List.Mem.head _)))))) (fun _ h => h) (z_goto X (t := 14) rfl rfl (WS_pq [4, 1, 5, 0] (lv' := [(0, .ref (A 179)), (1, .int (Int32.ofInt (nn + 0))), (2, .int (Int32.ofInt a)), (3, .int (Int32.ofInt (ka + 1)))]) rfl ?_)))))
            exact ih _ (nn + 0) a (ka + 1) I F jjMDJ (sc_up (by first | (clear g1011; omega) | omega) hq (Or.inr ⟨rfl, show ¬ (iC s 228 ((uW U).1 (a : Int).toNat (ka - 1).toNat).toNat ≠ iC s 228 ((uW U).1 (a : Int).toNat (ka : Int).toNat).toNat ∨ iC s 228 ((uW U).1 (a : Int).toNat (ka - 1).toNat).toNat = -1) by rw [hc1, hc2]; have z1 := hf (iC t (166 + (a : Int).toNat) (ka - 1).toNat).toNat; have z2 := hf (iC t (166 + (a : Int).toNat) (ka : Int).toNat).toNat; omega⟩)) (by first | exact ⟨And.intro (oq_590e7a3f hi.1.1) (oq_92e9716e hi.1.2), And.intro (hi.2.1.1) (And.intro (hi.2.1.2.1) (hi.2.1.2.2)), And.intro (oq_1e1a2df6 hi.2.2.1.1) (oq_41473be0 g1003 b1002.2), hi.2.2.2.1, oq_b1226e90 hm1 g1003⟩ | omega) (by first | exact qk_me hm (by decide) (oq_9dea93e6 g1003 b1002.2) | omega) kx
          ·
            refine z_aload_n X (x := A 179) rfl (List.Mem.tail _ (List.Mem.tail _ (List.Mem.head _))) (z_load_n X (x := a) rfl (List.Mem.tail _ (List.Mem.tail _ (List.Mem.tail _ (List.Mem.tail _ (List.Mem.head _))))) (zcV_i0 X E 179 (As := [.int (Int32.ofInt a)]) (st := [.int (Int32.ofInt nn)]) rfl rfl rfl rfl (k_total2 G I (by first | exact ⟨hi.2.1.1, hi.2.1.2.1⟩ | omega)) rfl (Nat.le_of_ble_eq_true rfl) (fun s1012 e1013 Is1012 Fs1012 hrs1012 hps1012 => ?_)))
            have Gs1012 := fm_tq F Fs1012 rfl rfl
            have JMDJ_s1012 : MDJ U s1012 := MDJ_fm Fs1012 (by decide) jjMDJ
            have ws1012_90 : iI s1012 90 = iI t 90 := fm_iq Fs1012 rfl
            have htt : e1013 = uT U (a : Int).toNat := by have z := jjMDJ.2.2.2.2.2.1 (a : Int).toNat (by omega); rw [show (((a : Int).toNat : Nat) : Int) = a by omega] at z; rw [← z]; exact hps1012.2.2
            refine z_goto X (t := 79) rfl rfl (z_add X rfl (z_store_n X (lv' := [(1, .int (Int32.ofInt (nn + e1013))), (5, .int (Int32.ofInt (iC t 228 ((iC t (166 + (a : Int).toNat) (ka : Int).toNat)).toNat))), (4, .int (Int32.ofInt (iC t 228 ((iC t (166 + (a : Int).toNat) ((ka - 1) : Int).toNat)).toNat))), (0, .ref (A 179)), (2, .int (Int32.ofInt a)), (3, .int (Int32.ofInt ka))]) rfl (by decide) (fun _ h => h) (z_inc X (x := ka) (lv' := [(3, .int (Int32.ofInt (ka + 1))), (1, .int (Int32.ofInt (nn + e1013))), (5, .int (Int32.ofInt (iC t 228 ((iC t (166 + (a : Int).toNat) (ka : Int).toNat)).toNat))), (4, .int (Int32.ofInt (iC t 228 ((iC t (166 + (a : Int).toNat) ((ka - 1) : Int).toNat)).toNat))), (0, .ref (A 179)), (2, .int (Int32.ofInt a))]) rfl (by decide) (List.Mem.tail _ (List.Mem.tail _ (List.Mem.tail _ (List.Mem.tail _ (List.Mem.tail _ (List.Mem.head _)))))) (fun _ h => h) (z_goto X (t := 14) rfl rfl (WS_pq [4, 1, 5, 0] (lv' := [(0, .ref (A 179)), (1, .int (Int32.ofInt (nn + e1013))), (2, .int (Int32.ofInt a)), (3, .int (Int32.ofInt (ka + 1)))]) rfl ?_)))))
            exact ih _ (nn + e1013) a (ka + 1) Is1012 Gs1012 JMDJ_s1012 (sc_up (by omega) hq (Or.inl ⟨htt, show (iC s 228 ((uW U).1 (a : Int).toNat (ka - 1).toNat).toNat ≠ iC s 228 ((uW U).1 (a : Int).toNat (ka : Int).toNat).toNat ∨ iC s 228 ((uW U).1 (a : Int).toNat (ka - 1).toNat).toNat = -1) by rw [hc1, hc2]; have z1 := hf (iC t (166 + (a : Int).toNat) (ka - 1).toNat).toNat; have z2 := hf (iC t (166 + (a : Int).toNat) (ka : Int).toNat).toNat; omega⟩)) (by first | exact ⟨And.intro (oq_dd29f52d hi.1.1 hps1012.1) (oq_3aa2babc hi.1.2 hps1012.2.1), And.intro (hi.2.1.1) (And.intro (hi.2.1.2.1) (hi.2.1.2.2)), And.intro (oq_1e1a2df6 hi.2.2.1.1) (oq_41473be0 g1003 b1002.2), oq_1aa5be9e ws1012_90 hi.2.2.2.1, oq_b1226e90 hm1 g1003⟩ | omega) (by first | exact qk_me hm (by decide) (oq_9dea93e6 g1003 b1002.2) | omega) kx
  have L4 : ∀ (n : Nat) (t : PS) (nn a : Int), Bd t → Fm [] [] s t → MDJ U t → (nn = scK U (pfM s) (a : Int).toNat 0) → ((0 ≤ nn ∧ nn ≤ 28800 * a) ∧ 0 ≤ a ∧ a ≤ iI s 90 ∧ iI s 90 ≤ 12 ∧ iI t 90 = iI s 90) → (12 - a : Int).toNat < n → (∀ (t' : PS) (nn' a' : Int), Bd t' → Fm [] [] s t' → MDJ U t' → (nn' = scK U (pfM s) (a' : Int).toNat 0) → (rng nn' ∧ a' = iI s 90) → WS k 93 [(0, .ref (A 179)), (1, .int (Int32.ofInt nn')), (2, .int (Int32.ofInt a'))] [] (Wd A dT t') 0 0) → WS k 4 [(0, .ref (A 179)), (1, .int (Int32.ofInt nn)), (2, .int (Int32.ofInt a))] [] (Wd A dT t) 0 0 := by
    intro n
    induction n with
    | zero =>
      intro t nn a I F jjMDJ hq hi hm kx
      exact absurd hm (Nat.not_lt_zero _)
    | succ n ih =>
      intro t nn a I F jjMDJ hq hi hm kx
      have b2001 := bi_90 I
      have hdo := jjMDJ.1.1
      refine z_load_n X (x := a) rfl (List.Mem.tail _ (List.Mem.tail _ (List.Mem.head _))) (z_aload_n X (x := A 179) rfl (List.Mem.head _) (z_getI X 179 rfl (c518_ok rfl) rfl rfl ?_))
      have b2002 := bi_90 I
      refine z_icmp_ge X (t := 93) rfl rfl ⟨by first | exact oq_fa4e5087 hi.2.1 | omega, by first | exact oq_39d2cc6e hi.2.2.1 hi.2.2.2.1 | omega⟩ (rng_to _) (fun g2003 => ?_) (fun g2003 => ?_)
      ·
        refine WS_pq [0, 1, 2] (lv' := [(0, .ref (A 179)), (1, .int (Int32.ofInt nn)), (2, .int (Int32.ofInt a))]) rfl ?_
        exact kx _ nn a I F jjMDJ hq (by first | exact ⟨And.intro (oq_fa4e5087 hi.1.1) (oq_c19f7354 hi.1.2 hi.2.2.1 hi.2.2.2.1), oq_537ca82a hi.2.2.1 g2003 hi.2.2.2.2⟩ | omega)
      ·
        have hwk0 := (jjMDJ.2.2.1 (a : Int).toNat (by omega)).1
        refine z_const X rfl (z_store_n X (lv' := [(3, .int (Int32.ofInt 1)), (0, .ref (A 179)), (1, .int (Int32.ofInt nn)), (2, .int (Int32.ofInt a))]) rfl (by decide) (fun _ h => h) (WS_pq [1, 2, 3, 0] (lv' := [(0, .ref (A 179)), (1, .int (Int32.ofInt nn)), (2, .int (Int32.ofInt a)), (3, .int (Int32.ofInt 1))]) rfl (L14 ((24 - 1 : Int).toNat + 1) t nn a 1 I F jjMDJ (by rw [hq]; rfl) (by first | exact ⟨And.intro (hi.1.1) (oq_3cb15189 hi.1.2), And.intro (hi.2.1) (And.intro (oq_e4d7f3c5 g2003 b2002.2) (oq_9d1a6c71 g2003 hi.2.2.2.2)), And.intro (by decide) (by decide), hi.2.2.2.2, by omega⟩ | omega) (Nat.lt_succ_self _) ?_)))
        intro s2004 x2005 x2006 Is2004 Fs2004 JMDJ_s2004 Qs2004 hs2004
        have b2007 := bi_90 Is2004
        refine z_inc X (x := a) (lv' := [(2, .int (Int32.ofInt (a + 1))), (0, .ref (A 179)), (1, .int (Int32.ofInt x2005)), (3, .int (Int32.ofInt x2006))]) rfl (by decide) (List.Mem.tail _ (List.Mem.tail _ (List.Mem.head _))) (fun _ h => h) (z_goto X (t := 4) rfl rfl (WS_pq [1, 2, 0] (lv' := [(0, .ref (A 179)), (1, .int (Int32.ofInt x2005)), (2, .int (Int32.ofInt (a + 1)))]) rfl ?_))
        exact ih _ x2005 (a + 1) Is2004 Fs2004 JMDJ_s2004 (sc_nx (by omega) Qs2004 (by omega)) (by first | exact ⟨And.intro (hs2004.1.1) (oq_bd4a7464 hs2004.1.2), oq_54f49eb5 hs2004.2.1.1, oq_afc84a8d hs2004.2.1.2.2, hi.2.2.2.1, hs2004.2.2.1⟩ | omega) (by first | exact qk_me hm (by decide) (oq_8b937940 hs2004.2.1.2.1) | omega) kx
  refine z_const X rfl (z_store_n X (lv' := [(1, .int (Int32.ofInt 0)), (0, .ref (A 179))]) rfl (by decide) (fun _ h => h) (z_const X rfl (z_store_n X (lv' := [(2, .int (Int32.ofInt 0)), (1, .int (Int32.ofInt 0)), (0, .ref (A 179))]) rfl (by decide) (fun _ h => h) (WS_pq [2, 1, 0] (lv' := [(0, .ref (A 179)), (1, .int (Int32.ofInt 0)), (2, .int (Int32.ofInt 0))]) rfl (L4 ((12 - 0 : Int).toNat + 1) s 0 0 I F jMDJ (by show (0 : Int) = 0 + uT U _ * 0; rw [Int.mul_zero]; rfl) (by first | exact ⟨And.intro (by decide) (by decide), by decide, b1.1, b1.2, by decide⟩ | omega) (Nat.lt_succ_self _) ?_)))))
  intro s2 x3 x4 Is2 Fs2 JMDJ_s2 Qs2 hs2
  have b5 := bi_90 Is2
  refine z_load_n X (x := x3) rfl (List.Mem.tail _ (List.Mem.head _)) ?_
  exact w_iret X.1 q hRt rfl (ax_d X (show cdA 249 94 = some (.ireturn, 1, 0, 0, 0) from rfl)) (Nat.zero_le _) (Nat.zero_le _) ⟨_, rfl, Is2, Fs2, x3, rfl, ⟨by first | exact hs2.1.1 | omega, by first | exact hs2.1.2 | omega⟩, (sc_e Qs2 (by have w := jMDJ.1.1; omega))⟩
end M87w
