/-! Values of tests, ands, ors: the model -/
theorem rstb_0v {V : List Int → Prop} {B : Nat → Int} {N p o : Int} {t : PS} (h : OUv V B N 5 p o t) : RSv V B N 7 6 p o t := by
  obtain ⟨r, r1, r2⟩ := h
  rcases r2 with ⟨f0, z, q, hv⟩ | ⟨f0, z⟩
  · exact Or.inr ⟨f0, r.2.1, hv, fun s hs => wb_go r1 z (by rw [← q]; exact hs)⟩
  · exact Or.inl ⟨f0, r, wb_bad r1 (by omega), Or.inr ⟨f0, z⟩⟩
theorem rstb_endv {V : List Int → Prop} {B : Nat → Int} {N p o : Int} {t : PS} (h : RSv V B N 7 6 p o t) (hf : iI t 79 = 0) (hc : ¬ (whV B N (sk B N (iI t 77)) = 1111)) : OUv V B N 6 p o t := by
  rcases h with h | ⟨f0, a, hv, g⟩
  · exact absurd hf h.1
  · exact ⟨_, g _ (rb_end hc), Or.inl ⟨f0, rfl, rfl, hv⟩⟩
theorem rstb_upv {V V1 V2 : List Int → Prop} {B : Nat → Int} {N p o : Int} {t u : PS} (h : RSv V B N 7 6 p o t) (hf : iI t 79 = 0) (hc : whV B N (sk B N (iI t 77)) = 1111) (h1 : OUv V1 B N 5 (sk B N (wdE B N (sk B N (iI t 77)))) o u) (hV : ∀ a c, V a → V1 c → V2 (a ++ c ++ [-18])) : RSv V2 B N 7 6 p o u := by
  rcases h with h | ⟨f0, a, hv, g⟩
  · exact absurd hf h.1
  · obtain ⟨r, r1, r2⟩ := h1
    rcases r2 with ⟨e0, z, q, hw⟩ | ⟨e0, z⟩
    · exact Or.inr ⟨e0, a ++ r.2.1 ++ [-18], hV _ _ hv hw, fun s hs => g s (rb_go hc r1 z (by rw [← q]; exact hs))⟩
    · exact Or.inl ⟨e0, r, g r (rb_bad hc r1 (by omega)), Or.inr ⟨e0, z⟩⟩
theorem rste_0v {V : List Int → Prop} {B : Nat → Int} {N p o : Int} {t : PS} (h : OUv V B N 6 p o t) : RSv V B N 9 8 p o t := by
  obtain ⟨r, r1, r2⟩ := h
  rcases r2 with ⟨f0, z, q, hv⟩ | ⟨f0, z⟩
  · exact Or.inr ⟨f0, r.2.1, hv, fun s hs => we_go r1 z (by rw [← q]; exact hs)⟩
  · exact Or.inl ⟨f0, r, we_bad r1 (by omega), Or.inr ⟨f0, z⟩⟩
theorem rste_endv {V : List Int → Prop} {B : Nat → Int} {N p o : Int} {t : PS} (h : RSv V B N 9 8 p o t) (hf : iI t 79 = 0) (hc : ¬ (whV B N (sk B N (iI t 77)) = 423)) : OUv V B N 8 p o t := by
  rcases h with h | ⟨f0, a, hv, g⟩
  · exact absurd hf h.1
  · exact ⟨_, g _ (re_end hc), Or.inl ⟨f0, rfl, rfl, hv⟩⟩
theorem rste_upv {V V1 V2 : List Int → Prop} {B : Nat → Int} {N p o : Int} {t u : PS} (h : RSv V B N 9 8 p o t) (hf : iI t 79 = 0) (hc : whV B N (sk B N (iI t 77)) = 423) (h1 : OUv V1 B N 6 (sk B N (wdE B N (sk B N (iI t 77)))) o u) (hV : ∀ a c, V a → V1 c → V2 (a ++ c ++ [-19])) : RSv V2 B N 9 8 p o u := by
  rcases h with h | ⟨f0, a, hv, g⟩
  · exact absurd hf h.1
  · obtain ⟨r, r1, r2⟩ := h1
    rcases r2 with ⟨e0, z, q, hw⟩ | ⟨e0, z⟩
    · exact Or.inr ⟨e0, a ++ r.2.1 ++ [-19], hV _ _ hv hw, fun s hs => g s (re_go hc r1 z (by rw [← q]; exact hs))⟩
    · exact Or.inl ⟨e0, r, g r (re_bad hc r1 (by omega)), Or.inr ⟨e0, z⟩⟩
/-- tests -/
theorem ou_notv {V V1 : List Int → Prop} {B : Nat → Int} {N p o : Int} {t : PS} (h : whV B N p = 10631) (ho : o < 6) (h1 : OUv V1 B N 5 (sk B N (wdE B N p)) (o + 1) t) (hV : ∀ c, V1 c → V (c ++ [-8])) : OUv V B N 5 p o t := by
  obtain ⟨r, r1, r2⟩ := h1
  rcases r2 with ⟨f0, z, q, hv⟩ | ⟨f0, z⟩
  · exact ou_okv (pt_ny h ho r1 z) f0 q (hV _ hv)
  · exact ⟨r, pt_nb h ho r1 (by omega), Or.inr ⟨f0, z⟩⟩
theorem ou_brkv {V : List Int → Prop} {B : Nat → Int} {N p o : Int} {t u : PS} (h : whV B N p ≠ 10631) (hc : chT B N p 91) (ho : o < 6) (h1 : OUv V B N 8 (sk B N (p + 1)) (o + 1) t) (h2 : SGN B N 93 t u) : OUv V B N 5 p o u := by
  obtain ⟨r, r1, r2⟩ := h1
  rcases r2 with ⟨f0, z, q, hv⟩ | ⟨f0, z⟩
  · rcases h2 with ⟨c1, c2, c3⟩ | ⟨c1, c2, c3⟩
    · rw [q] at c1 c2
      exact ou_okv (pt_by h hc ho r1 z c1) (by omega) (by rw [c2]) hv
    · rw [q] at c1 c2
      exact ou_nov (pt_bn h hc ho r1 z c1) (by decide) (by omega)
  · exact ⟨r, pt_bb h hc ho r1 (by omega), Or.inr ⟨by rw [sg_fa h2 f0]; exact f0, by rw [sg_fa h2 f0]; exact z⟩⟩
theorem ou_sbv {V V1 V2 : List Int → Prop} {B : Nat → Int} {N p o : Int} {t u : PS} (h : whV B N p ≠ 10631) (hc : ¬ chT B N p 91) (h1 : OUv V1 B N 3 p o t) (f0 : iI t 79 ≠ 0) (hu : iI u 79 = iI t 79) : OUv V B N 5 p o u := by
  obtain ⟨r, r1, r2⟩ := h1
  rcases r2 with r2 | ⟨-, z⟩
  · exact absurd r2.1 f0
  · exact ⟨r, pt_sb h hc r1 (by omega), Or.inr ⟨by omega, by omega⟩⟩
theorem ou_snv {V V1 V2 : List Int → Prop} {B : Nat → Int} {N p o : Int} {t u : PS} (h : whV B N p ≠ 10631) (hc : ¬ chT B N p 91) (h1 : OUv V1 B N 3 p o t) (f0 : iI t 79 = 0) (hd : ¬ rlT B N (sk B N (iI t 77))) (hu : iI u 79 = 1) : OUv V B N 5 p o u := by
  obtain ⟨r, r1, r2⟩ := h1
  rcases r2 with ⟨-, z, q, hv⟩ | r2
  · rw [q] at hd
    exact ou_nov (pt_sn h hc r1 z hd) (by decide) hu
  · exact absurd f0 r2.1
theorem ou_s2v {V V1 V2 : List Int → Prop} {B : Nat → Int} {N p o : Int} {t u : PS} (h : whV B N p ≠ 10631) (hc : ¬ chT B N p 91) (h1 : OUv V1 B N 3 p o t) (f0 : iI t 79 = 0) (hd : rlT B N (sk B N (iI t 77))) (h2 : OUv V2 B N 3 (sk B N (sk B N (iI t 77) + 1)) o u) (hV : ∀ c d, V1 c → V2 d → V (c ++ d ++ [opC B (sk B N (iI t 77))])) : OUv V B N 5 p o u := by
  obtain ⟨r, r1, r2⟩ := h1
  obtain ⟨s, s1, s2⟩ := h2
  rcases r2 with ⟨-, z, q, hv⟩ | r2
  · rw [q] at hd s1 hV
    refine ⟨_, pt_s2 h hc r1 z hd s1 rfl, ?_⟩
    unfold bnd
    rcases s2 with ⟨g0, y, k, hv2⟩ | ⟨g0, y⟩
    · rw [if_pos y]; exact Or.inl ⟨g0, rfl, k, hV _ _ hv hv2⟩
    · rw [if_neg (by omega)]; exact Or.inr ⟨g0, y⟩
  · exact absurd f0 r2.1
theorem prmb_0v {V : List Int → Prop} {B : Nat → Int} {N : Int} {s t : PS} (h : PFv V B N 5 s t) : PRv V B N 7 6 s t := by
  rcases h with h | h
  · exact Or.inl h
  · exact Or.inr ⟨h.1, rstb_0v h.2⟩
theorem prmb_endv {V : List Int → Prop} {B : Nat → Int} {N : Int} {s t : PS} (h : PRv V B N 7 6 s t) (hf : iI t 79 = 0) (hc : ¬ (whV B N (sk B N (iI t 77)) = 1111)) : PFv V B N 6 s t := by
  rcases h with h | h
  · exact absurd h.2 (by omega)
  · exact Or.inr ⟨h.1, rstb_endv h.2 hf hc⟩
theorem prmb_upv {V V1 V2 : List Int → Prop} {B : Nat → Int} {N : Int} {s t a u : PS} (h : PRv V B N 7 6 s t) (hf : iI t 79 = 0) (hc : whV B N (sk B N (iI t 77)) = 1111) (hA : sk B N (iI a 77) = sk B N (wdE B N (sk B N (iI t 77)))) (hF : iI a 79 = 0) (hO : iI a 78 = iI s 78) (h1 : PFv V1 B N 5 a u) (hV : ∀ a c, V a → V1 c → V2 (a ++ c ++ [-18])) : PRv V2 B N 7 6 s u := by
  rcases h with h | h
  · exact absurd h.2 (by omega)
  · have h2 := pf_ouv h1 hF
    rw [hA, hO] at h2
    exact Or.inr ⟨h.1, rstb_upv h.2 hf hc h2 hV⟩
theorem prme_0v {V : List Int → Prop} {B : Nat → Int} {N : Int} {s t : PS} (h : PFv V B N 6 s t) : PRv V B N 9 8 s t := by
  rcases h with h | h
  · exact Or.inl h
  · exact Or.inr ⟨h.1, rste_0v h.2⟩
theorem prme_endv {V : List Int → Prop} {B : Nat → Int} {N : Int} {s t : PS} (h : PRv V B N 9 8 s t) (hf : iI t 79 = 0) (hc : ¬ (whV B N (sk B N (iI t 77)) = 423)) : PFv V B N 8 s t := by
  rcases h with h | h
  · exact absurd h.2 (by omega)
  · exact Or.inr ⟨h.1, rste_endv h.2 hf hc⟩
theorem prme_upv {V V1 V2 : List Int → Prop} {B : Nat → Int} {N : Int} {s t a u : PS} (h : PRv V B N 9 8 s t) (hf : iI t 79 = 0) (hc : whV B N (sk B N (iI t 77)) = 423) (hA : sk B N (iI a 77) = sk B N (wdE B N (sk B N (iI t 77)))) (hF : iI a 79 = 0) (hO : iI a 78 = iI s 78) (h1 : PFv V1 B N 6 a u) (hV : ∀ a c, V a → V1 c → V2 (a ++ c ++ [-19])) : PRv V2 B N 9 8 s u := by
  rcases h with h | h
  · exact absurd h.2 (by omega)
  · have h2 := pf_ouv h1 hF
    rw [hA, hO] at h2
    exact Or.inr ⟨h.1, rste_upv h.2 hf hc h2 hV⟩
theorem ou_notFv {V V1 : List Int → Prop} {B : Nat → Int} {N p o : Int} {a b : PS} (h : whV B N p = 10631) (o6 : o ≤ 6) (ho : (o = 6 ∧ iI a 79 = 3) ∨ (o ≠ 6 ∧ iI a 79 = 0)) (hA : iI a 77 = wdE B N p) (hP : iI a 78 = o + 1) (h1 : PFv V1 B N 5 a b) (hV : ∀ c, V1 c → V (c ++ [-8])) : OUv V B N 5 p o b := by
  rcases ho with ⟨q, f⟩ | ⟨q, f⟩
  · have f1 := pf_fav h1 (by omega)
    exact ou_nov (pt_n3 h (by omega)) (by decide) (by omega)
  · have h3 := pf_ouv h1 f
    rw [hA, hP] at h3
    exact ou_notv h (by omega) h3 hV
theorem ou_brkFv {V : List Int → Prop} {B : Nat → Int} {N p o : Int} {a b c : PS} (h : whV B N p ≠ 10631) (hc : chT B N p 91) (o6 : o ≤ 6) (ho : (o = 6 ∧ iI a 79 = 3) ∨ (o ≠ 6 ∧ iI a 79 = 0)) (hA : iI a 77 = p + 1) (hP : iI a 78 = o + 1) (h1 : PFv V B N 8 a b) (h2 : SGN B N 93 b c) : OUv V B N 5 p o c := by
  rcases ho with ⟨q, f⟩ | ⟨q, f⟩
  · have f1 := pf_fav h1 (by omega)
    exact ou_nov (pt_b3 h hc (by omega)) (by decide) (by rw [sg_fa h2 (by omega)]; omega)
  · have h3 := pf_ouv h1 f
    rw [hA, hP] at h3
    exact ou_brkv h hc (by omega) h3 h2
theorem ou_cmpFv {V V1 V2 : List Int → Prop} {B : Nat → Int} {N p o : Int} {s a b c d : PS} (h : whV B N p ≠ 10631) (hc : ¬ chT B N p 91) (h1 : PFv V1 B N 3 s a) (hs : iI s 79 = 0) (hp : sk B N (iI s 77) = p) (ho : iI s 78 = o) (hb : iI b 77 = sk B N (iI a 77)) (hbf : iI b 79 = iI a 79) (hc1 : (rlT B N (iI b 77) ∧ iI c 79 = iI b 79) ∨ (¬ rlT B N (iI b 77) ∧ ((iI b 79 = 0 ∧ iI c 79 = 1) ∨ (iI b 79 ≠ 0 ∧ iI c 79 = iI b 79)))) (hcA : iI c 77 = iI b 77 + 1) (hcO : iI c 78 = o) (h2 : PFv V2 B N 3 c d) (hV : ∀ x y, V1 x → V2 y → V (x ++ y ++ [opC B (sk B N (iI a 77))])) : OUv V B N 5 p o d := by
  have g1 := pf_ouv h1 hs
  rw [hp, ho] at g1
  by_cases f : iI a 79 = 0
  · rcases hc1 with ⟨r, q⟩ | ⟨r, q⟩
    · rw [hb] at r hcA
      have g2 := pf_ouv h2 (by omega)
      rw [hcA, hcO] at g2
      exact ou_s2v h hc g1 f r g2 hV
    · rw [hb] at r
      have f1 : iI c 79 = 1 := by omega
      have f2 := pf_fav h2 (by omega)
      exact ou_snv (V2 := V2) h hc g1 f r (by omega)
  · have f1 : iI c 79 = iI a 79 := by
      rcases hc1 with ⟨-, q⟩ | ⟨-, q⟩
      · omega
      · omega
    have f2 := pf_fav h2 (by omega)
    exact ou_sbv (V2 := V2) h hc g1 f (by omega)
theorem jn_and {a b e : Int} (ra : a = 0 ∨ a = 1) (rb : b = 0 ∨ b = 1) (h : (a = 1 ∧ b = 1 ∧ e = 1) ∨ ((a = 0 ∨ b = 0) ∧ e = 0)) : Int32.ofInt e = jnV (-18) (Int32.ofInt a) (Int32.ofInt b) := by
  rcases ra with ra | ra <;> rcases rb with rb | rb <;> subst ra rb
  · have : e = 0 := by omega
    subst this; decide
  · have : e = 0 := by omega
    subst this; decide
  · have : e = 0 := by omega
    subst this; decide
  · have : e = 1 := by omega
    subst this; decide
theorem jn_or {a b e : Int} (ra : a = 0 ∨ a = 1) (rb : b = 0 ∨ b = 1) (h : ((a = 1 ∨ b = 1) ∧ e = 1) ∨ (a = 0 ∧ b = 0 ∧ e = 0)) : Int32.ofInt e = jnV (-19) (Int32.ofInt a) (Int32.ofInt b) := by
  rcases ra with ra | ra <;> rcases rb with rb | rb <;> subst ra rb
  · have : e = 0 := by omega
    subst this; decide
  · have : e = 1 := by omega
    subst this; decide
  · have : e = 1 := by omega
    subst this; decide
  · have : e = 1 := by omega
    subst this; decide
def jcC (c : Int) : Int := if c = 60 then -15 else if c = 62 then -16 else -17
theorem opc_r {B : Nat → Int} {q c : Int} (h : B q.toNat = c) (hc : c = 60 ∨ c = 62 ∨ c = 61) : opC B q = jcC c := by
  unfold opC
  rw [h]
  rcases hc with e | e | e <;> subst e <;> rfl
theorem jcc_lt {c : Int} : jcC c < -8 := by
  unfold jcC
  (repeat' split) <;> decide
theorem vl_notE {nm : Nat → Int32} {e y : Int} {c : List Int} (h : VLm nm (Int32.ofInt e) c) (hy : y = 1 - e) : VLm nm (Int32.ofInt y) (c ++ [-8]) := by
  rw [jn_not (a := e) (by rw [hy])]; exact vl_not h
/-- a fault: the value is nothing -/
theorem ouv_any {V W : List Int → Prop} {B : Nat → Int} {N : Int} {m : Nat} {p o : Int} {t : PS} (h : OUv V B N m p o t) (f : iI t 79 ≠ 0) : OUv W B N m p o t := by
  obtain ⟨r, r1, r2⟩ := h
  rcases r2 with r2 | r2
  · exact absurd r2.1 f
  · exact ⟨r, r1, Or.inr r2⟩
/-- ahead of what compares -/
def CM2 (B : Nat → Int) (N p o : Int) (s : PS) (av cv : Int) (t : PS) : Prop := ∀ (c d : PS) (bv : Int), iI c 77 = iI t 77 + 1 → iI c 79 = iI t 79 → iI c 78 = iI t 78 → PFv (VLm (NMr s) (Int32.ofInt bv)) B N 3 c d → ∀ e : Int, Int32.ofInt e = jnV (jcC cv) (Int32.ofInt av) (Int32.ofInt bv) → OUv (VLm (NMr s) (Int32.ofInt e)) B N 5 p o d
def CM1 (B : Nat → Int) (N p o : Int) (s : PS) (av cv bv : Int) (t : PS) : Prop := ∀ e : Int, Int32.ofInt e = jnV (jcC cv) (Int32.ofInt av) (Int32.ofInt bv) → OUv (VLm (NMr s) (Int32.ofInt e)) B N 5 p o t
theorem jcc_v {a b c e : Int} (ra : rng a) (rb : rng b) (h : (c = 60 ∧ ((a < b ∧ e = 1) ∨ (b ≤ a ∧ e = 0))) ∨ (c ≠ 60 ∧ c = 62 ∧ ((b < a ∧ e = 1) ∨ (a ≤ b ∧ e = 0))) ∨ (c ≠ 60 ∧ c ≠ 62 ∧ ((a = b ∧ e = 1) ∨ (a ≠ b ∧ e = 0)))) : Int32.ofInt e = jnV (jcC c) (Int32.ofInt a) (Int32.ofInt b) := by
  unfold jcC
  rcases h with ⟨h1, h2⟩ | ⟨h1, h2, h3⟩ | ⟨h1, h2, h3⟩
  · rw [if_pos h1]; exact jn_blw ra rb h2
  · rw [if_neg h1, if_pos h2]; exact jn_abv ra rb h3
  · rw [if_neg h1, if_neg h2]; exact jn_sam ra rb h3
section M87q9
variable {l : Launch} {s0 : State} {D : va_G} {tys : List (ClassId × FieldType)} {a0 : Array Value} {A : Nat → Nat} {dT : Nat → ClassId} {s : PS}
set_option maxRecDepth 4000 in
theorem k_test05 (G : GX l s0 D tys a0 dT) {B : Nat → Int} {N : Int} (I : Bd s) (jFDB : FDB B N s) (p0 : iI s 77 ≤ 203) (p1 : iI s 78 + ((0 : Nat) : Int) = 7) (p2 : iI s 78 = 7 → iI s 79 ≠ 0) (p3 : iI s 79 = 0 → iI s 77 ≤ 202) : CT l s0 D A dT 210 (rkR (24 + 3 * (0))) [.ref (A 179)] s (fun o t => Bd t ∧ Fm [77, 79, 80, 78] [] s t ∧ FDB B N t ∧ ∃ e, o = .inl (some (.int (Int32.ofInt e))) ∧ rng e ∧ (iI t 78 = iI s 78 ∧ iI s 77 ≤ iI t 77 ∧ (iI t 77 = iI s 77 ∨ iI t 77 ≤ 203) ∧ (iI s 79 ≠ 0 → iI t 79 ≠ 0) ∧ (iI t 79 = 0 → iI t 77 ≤ iI s 75) ∧ (iI s 79 = 0 → iI s 77 < iI t 77) ∧ (e = 0 ∨ e = 1) ∧ PFv (VLm (NMr s) (Int32.ofInt e)) B N 5 s t)) := by
  refine ct_of G (by decide) (Nat.le_of_ble_eq_true rfl) (fun k X E hRt hXt q => ?_)
  show WS k 0 [(0, .ref (A 179))] [] _ 0 0
  have F : Fm [77, 79, 80, 78] [] s s := fm_rf _ _ s
  have hN := jFDB.2.1
  have hW := jFDB.2.2
  have b1 := bi_77 I
  have b2 := bi_75 I
  have b3 := bi_79 I
  have b4 := bi_78 I
  refine z_aload_n X (x := A 179) rfl (List.Mem.head _) (z_getI X 179 rfl (c518_ok rfl) rfl rfl ?_)
  have b5 := bi_79 I
  refine z_if_eq X (t := 9) rfl rfl (rng_to _) (fun g6 => ?_) (fun g6 => ?_)
  ·
    exfalso
    omega
  ·
    refine z_const X rfl ?_
    exact w_iret X.1 q hRt (nar_ret (by first | exact Or.inl (by decide) | omega)) (ax_d X (show cdA 210 8 = some (.ireturn, 1, 0, 0, 0) from rfl)) (Nat.zero_le _) (Nat.zero_le _) ⟨_, rfl, I, F, jFDB, 0, rfl, (by decide), ⟨by first | (clear g6 p3 p2; omega) | (clear p3 p2; omega) | omega, by first | (clear g6 p3 p2; omega) | (clear p3 p2; omega) | omega, by first | exact Or.inl (by decide) | omega, by first | exact oq_4bed1c3e g6 b5.1 | omega, by first | exact oq_6a3c9b31 g6 b5.1 | omega, by first | exact oq_a49e6adf g6 b5.1 | omega, by first | exact Or.inl (by decide) | omega, Or.inl ⟨by first | (clear g6 p3 p2; omega) | (clear p3 p2; omega) | omega, by first | (clear g6 p3 p2; omega) | (clear p3 p2; omega) | omega⟩⟩⟩
set_option maxRecDepth 4000 in
theorem k_testS5 (G : GX l s0 D tys a0 dT) {B : Nat → Int} {N : Int} {r : Nat} (hT : ∀ {s : PS}, Bd s → FDB B N s → (iI s 77 ≤ 203) → (iI s 78 + ((r : Nat) : Int) = 7) → (iI s 78 = 7 → iI s 79 ≠ 0) → (iI s 79 = 0 → iI s 77 ≤ 202) → CT l s0 D A dT 210 (rkR (24 + 3 * (r))) [.ref (A 179)] s (fun o t => Bd t ∧ Fm [77, 79, 80, 78] [] s t ∧ FDB B N t ∧ ∃ e, o = .inl (some (.int (Int32.ofInt e))) ∧ rng e ∧ (iI t 78 = iI s 78 ∧ iI s 77 ≤ iI t 77 ∧ (iI t 77 = iI s 77 ∨ iI t 77 ≤ 203) ∧ (iI s 79 ≠ 0 → iI t 79 ≠ 0) ∧ (iI t 79 = 0 → iI t 77 ≤ iI s 75) ∧ (iI s 79 = 0 → iI s 77 < iI t 77) ∧ (e = 0 ∨ e = 1) ∧ PFv (VLm (NMr s) (Int32.ofInt e)) B N 5 s t))) (hO : ∀ {s : PS}, Bd s → FDB B N s → (iI s 77 ≤ 203) → (iI s 78 + ((r : Nat) : Int) = 7) → (iI s 78 = 7 → iI s 79 ≠ 0) → (iI s 79 = 0 → iI s 77 ≤ 202) → CT l s0 D A dT 212 (rkR (24 + 3 * (r) + 2)) [.ref (A 179)] s (fun o t => Bd t ∧ Fm [77, 79, 80, 78] [] s t ∧ FDB B N t ∧ ∃ e, o = .inl (some (.int (Int32.ofInt e))) ∧ rng e ∧ (iI t 78 = iI s 78 ∧ iI s 77 ≤ iI t 77 ∧ (iI t 77 = iI s 77 ∨ iI t 77 ≤ 203) ∧ (iI s 79 ≠ 0 → iI t 79 ≠ 0) ∧ (iI t 79 = 0 → iI t 77 ≤ iI s 75) ∧ (iI s 79 = 0 → iI s 77 < iI t 77) ∧ (e = 0 ∨ e = 1) ∧ PFv (VLm (NMr s) (Int32.ofInt e)) B N 8 s t))) (I : Bd s) (jFDB : FDB B N s) (p0 : iI s 77 ≤ 203) (p1 : iI s 78 + ((r + 1 : Nat) : Int) = 7) (p2 : iI s 78 = 7 → iI s 79 ≠ 0) (p3 : iI s 79 = 0 → iI s 77 ≤ 202) : CT l s0 D A dT 210 (rkR (24 + 3 * (r + 1))) [.ref (A 179)] s (fun o t => Bd t ∧ Fm [77, 79, 80, 78] [] s t ∧ FDB B N t ∧ ∃ e, o = .inl (some (.int (Int32.ofInt e))) ∧ rng e ∧ (iI t 78 = iI s 78 ∧ iI s 77 ≤ iI t 77 ∧ (iI t 77 = iI s 77 ∨ iI t 77 ≤ 203) ∧ (iI s 79 ≠ 0 → iI t 79 ≠ 0) ∧ (iI t 79 = 0 → iI t 77 ≤ iI s 75) ∧ (iI s 79 = 0 → iI s 77 < iI t 77) ∧ (e = 0 ∨ e = 1) ∧ PFv (VLm (NMr s) (Int32.ofInt e)) B N 5 s t)) := by
  refine ct_of G (by decide) (Nat.le_of_ble_eq_true rfl) (fun k X E hRt hXt q => ?_)
  show WS k 0 [(0, .ref (A 179))] [] _ 0 0
  have F : Fm [77, 79, 80, 78] [] s s := fm_rf _ _ s
  have hN := jFDB.2.1
  have hW := jFDB.2.2
  have b1 := bi_77 I
  have b2 := bi_75 I
  have b3 := bi_79 I
  have b4 := bi_78 I
  have L159 : ∀ (t : PS) (av cv bv : Int), Bd t → Fm [77, 79, 80, 78] [] s t → FDB B N t → (CM1 B N (sk B N (iI s 77)) (iI s 78) s av cv bv t) → (iI t 78 = iI s 78 ∧ iI s 77 ≤ iI t 77 ∧ (iI t 77 = iI s 77 ∨ iI t 77 ≤ 203) ∧ (iI s 79 ≠ 0 → iI t 79 ≠ 0) ∧ (iI t 79 = 0 → iI t 77 ≤ iI s 75) ∧ (iI s 79 = 0 → iI s 77 < iI t 77) ∧ iI s 79 = 0 ∧ rng av ∧ rng cv ∧ rng bv) → WS k 159 [(0, .ref (A 179)), (1, .int (Int32.ofInt av)), (2, .int (Int32.ofInt cv)), (3, .int (Int32.ofInt bv))] [] (Wd A dT t) 0 0 := by
    intro t av cv bv I F jjFDB hq hi
    have b1001 := bi_77 I
    have b1002 := bi_75 I
    have b1003 := bi_79 I
    have b1004 := bi_78 I
    have hN := jjFDB.2.1
    have hW := jjFDB.2.2
    refine z_load_n X (x := cv) rfl (List.Mem.tail _ (List.Mem.tail _ (List.Mem.head _))) (z_bipush X rfl (z_icmp_ne X (t := 178) rfl rfl ⟨by first | exact hi.2.2.2.2.2.2.2.2.1.1 | omega, by first | exact hi.2.2.2.2.2.2.2.2.1.2 | omega⟩ (by decide) (fun g1005 => ?_) (fun g1005 => ?_)))
    ·
      refine z_load_n X (x := cv) rfl (List.Mem.tail _ (List.Mem.tail _ (List.Mem.head _))) (z_bipush X rfl (z_icmp_ne X (t := 197) rfl rfl ⟨by first | exact hi.2.2.2.2.2.2.2.2.1.1 | omega, by first | exact hi.2.2.2.2.2.2.2.2.1.2 | omega⟩ (by decide) (fun g1006 => ?_) (fun g1006 => ?_)))
      ·
        refine z_load_n X (x := av) rfl (List.Mem.tail _ (List.Mem.head _)) (z_load_n X (x := bv) rfl (List.Mem.tail _ (List.Mem.tail _ (List.Mem.tail _ (List.Mem.head _)))) (z_icmp_ne X (t := 206) rfl rfl ⟨by first | exact hi.2.2.2.2.2.2.2.1.1 | omega, by first | exact hi.2.2.2.2.2.2.2.1.2 | omega⟩ ⟨by first | exact hi.2.2.2.2.2.2.2.2.2.1 | omega, by first | exact hi.2.2.2.2.2.2.2.2.2.2 | omega⟩ (fun g1007 => ?_) (fun g1007 => ?_)))
        ·
          refine z_const X rfl ?_
          exact w_iret X.1 q hRt (nar_ret (by first | exact Or.inl (by decide) | omega)) (ax_d X (show cdA 210 207 = some (.ireturn, 1, 0, 0, 0) from rfl)) (Nat.zero_le _) (Nat.zero_le _) ⟨_, rfl, I, F, jjFDB, 0, rfl, (by decide), ⟨hi.1, hi.2.1, hi.2.2.1, hi.2.2.2.1, hi.2.2.2.2.1, hi.2.2.2.2.2.1, by first | exact Or.inl (by decide) | omega, Or.inr ⟨by first | (clear g1007 g1006 g1005 p3 p2; omega) | (clear g1006 g1005 p3 p2; omega) | omega, hq _ (jcc_v hi.2.2.2.2.2.2.2.1 hi.2.2.2.2.2.2.2.2.2 (by first | (clear g1007 g1006 g1005 p3 p2; omega) | (clear g1006 g1005 p3 p2; omega) | omega))⟩⟩⟩
        ·
          refine z_const X rfl (z_goto X (t := 207) rfl rfl ?_)
          exact w_iret X.1 q hRt (nar_ret (by first | exact Or.inr (by decide) | omega)) (ax_d X (show cdA 210 207 = some (.ireturn, 1, 0, 0, 0) from rfl)) (Nat.zero_le _) (Nat.zero_le _) ⟨_, rfl, I, F, jjFDB, 1, rfl, (by decide), ⟨hi.1, hi.2.1, hi.2.2.1, hi.2.2.2.1, hi.2.2.2.2.1, hi.2.2.2.2.2.1, by first | exact Or.inr (by decide) | omega, Or.inr ⟨by first | (clear g1006 g1005 p3 p2; omega) | (clear g1005 p3 p2; omega) | omega, hq _ (jcc_v hi.2.2.2.2.2.2.2.1 hi.2.2.2.2.2.2.2.2.2 (by first | (clear g1006 g1005 p3 p2; omega) | (clear g1005 p3 p2; omega) | omega))⟩⟩⟩
      ·
        refine z_load_n X (x := av) rfl (List.Mem.tail _ (List.Mem.head _)) (z_load_n X (x := bv) rfl (List.Mem.tail _ (List.Mem.tail _ (List.Mem.tail _ (List.Mem.head _)))) (z_icmp_le X (t := 193) rfl rfl ⟨by first | exact hi.2.2.2.2.2.2.2.1.1 | omega, by first | exact hi.2.2.2.2.2.2.2.1.2 | omega⟩ ⟨by first | exact hi.2.2.2.2.2.2.2.2.2.1 | omega, by first | exact hi.2.2.2.2.2.2.2.2.2.2 | omega⟩ (fun g1008 => ?_) (fun g1008 => ?_)))
        ·
          refine z_const X rfl (z_goto X (t := 207) rfl rfl ?_)
          exact w_iret X.1 q hRt (nar_ret (by first | exact Or.inl (by decide) | omega)) (ax_d X (show cdA 210 207 = some (.ireturn, 1, 0, 0, 0) from rfl)) (Nat.zero_le _) (Nat.zero_le _) ⟨_, rfl, I, F, jjFDB, 0, rfl, (by decide), ⟨hi.1, hi.2.1, hi.2.2.1, hi.2.2.2.1, hi.2.2.2.2.1, hi.2.2.2.2.2.1, by first | exact Or.inl (by decide) | omega, Or.inr ⟨by first | (clear g1005 p3 p2; omega) | (clear p3 p2; omega) | omega, hq _ (jcc_v hi.2.2.2.2.2.2.2.1 hi.2.2.2.2.2.2.2.2.2 (by first | (clear g1005 p3 p2; omega) | (clear p3 p2; omega) | omega))⟩⟩⟩
        ·
          refine z_const X rfl (z_goto X (t := 207) rfl rfl ?_)
          exact w_iret X.1 q hRt (nar_ret (by first | exact Or.inr (by decide) | omega)) (ax_d X (show cdA 210 207 = some (.ireturn, 1, 0, 0, 0) from rfl)) (Nat.zero_le _) (Nat.zero_le _) ⟨_, rfl, I, F, jjFDB, 1, rfl, (by decide), ⟨hi.1, hi.2.1, hi.2.2.1, hi.2.2.2.1, hi.2.2.2.2.1, hi.2.2.2.2.2.1, by first | exact Or.inr (by decide) | omega, Or.inr ⟨by first | (clear g1005 p3 p2; omega) | (clear p3 p2; omega) | omega, hq _ (jcc_v hi.2.2.2.2.2.2.2.1 hi.2.2.2.2.2.2.2.2.2 (by first | (clear g1005 p3 p2; omega) | (clear p3 p2; omega) | omega))⟩⟩⟩
    ·
      refine z_load_n X (x := av) rfl (List.Mem.tail _ (List.Mem.head _)) (z_load_n X (x := bv) rfl (List.Mem.tail _ (List.Mem.tail _ (List.Mem.tail _ (List.Mem.head _)))) (z_icmp_ge X (t := 174) rfl rfl ⟨by first | exact hi.2.2.2.2.2.2.2.1.1 | omega, by first | exact hi.2.2.2.2.2.2.2.1.2 | omega⟩ ⟨by first | exact hi.2.2.2.2.2.2.2.2.2.1 | omega, by first | exact hi.2.2.2.2.2.2.2.2.2.2 | omega⟩ (fun g1009 => ?_) (fun g1009 => ?_)))
      ·
        refine z_const X rfl (z_goto X (t := 207) rfl rfl ?_)
        exact w_iret X.1 q hRt (nar_ret (by first | exact Or.inl (by decide) | omega)) (ax_d X (show cdA 210 207 = some (.ireturn, 1, 0, 0, 0) from rfl)) (Nat.zero_le _) (Nat.zero_le _) ⟨_, rfl, I, F, jjFDB, 0, rfl, (by decide), ⟨hi.1, hi.2.1, hi.2.2.1, hi.2.2.2.1, hi.2.2.2.2.1, hi.2.2.2.2.2.1, by first | exact Or.inl (by decide) | omega, Or.inr ⟨by first | (clear p3 p2; omega) | (clear p2; omega) | omega, hq _ (jcc_v hi.2.2.2.2.2.2.2.1 hi.2.2.2.2.2.2.2.2.2 (by first | (clear p3 p2; omega) | (clear p2; omega) | omega))⟩⟩⟩
      ·
        refine z_const X rfl (z_goto X (t := 207) rfl rfl ?_)
        exact w_iret X.1 q hRt (nar_ret (by first | exact Or.inr (by decide) | omega)) (ax_d X (show cdA 210 207 = some (.ireturn, 1, 0, 0, 0) from rfl)) (Nat.zero_le _) (Nat.zero_le _) ⟨_, rfl, I, F, jjFDB, 1, rfl, (by decide), ⟨hi.1, hi.2.1, hi.2.2.1, hi.2.2.2.1, hi.2.2.2.2.1, hi.2.2.2.2.2.1, by first | exact Or.inr (by decide) | omega, Or.inr ⟨by first | (clear p3 p2; omega) | (clear p2; omega) | omega, hq _ (jcc_v hi.2.2.2.2.2.2.2.1 hi.2.2.2.2.2.2.2.2.2 (by first | (clear p3 p2; omega) | (clear p2; omega) | omega))⟩⟩⟩
  have L144 : ∀ (t : PS) (av cv : Int), Bd t → Fm [77, 79, 80, 78] [] s t → FDB B N t → (CM2 B N (sk B N (iI s 77)) (iI s 78) s av cv t) → (iI s 79 = 0 ∧ iI t 78 = iI s 78 ∧ iI s 77 ≤ iI t 77 ∧ iI t 77 ≤ 202 ∧ rng av ∧ rng cv) → WS k 144 [(0, .ref (A 179)), (1, .int (Int32.ofInt av)), (2, .int (Int32.ofInt cv))] [] (Wd A dT t) 0 0 := by
    intro t av cv I F jjFDB hq hi
    have b2001 := bi_77 I
    have b2002 := bi_75 I
    have b2003 := bi_79 I
    have b2004 := bi_78 I
    have hN := jjFDB.2.1
    have hW := jjFDB.2.2
    refine z_aload_n X (x := A 179) rfl (List.Mem.head _) (w_dup X.1 (ax_d X (show cdA 210 145 = some (.dup, 1, 0, 0, 0) from rfl)) rfl (z_getI X 179 rfl (c518_ok rfl) rfl rfl ?_))
    have b2005 := bi_77 I
    refine z_const X rfl (z_add X rfl (s_putI X 179 rfl (c518_ok rfl) rfl rfl (by decide) rfl rfl rfl (wd_gen (fun s2006 hs2006 => ?_))))
    have Is2006 : Bd s2006 := eqB hs2006 (bd_I I (show (0 : Int) ≤ ((iI t 77) + 1) ∧ ((iI t 77) + 1) ≤ 400 by first | exact ⟨oq_54f49eb5 b2005.1, oq_030aea91 hi.2.2.2.1⟩ | omega) ⟨by first | exact oq_74de1e16 b2005.1 | omega, by first | exact oq_964ce197 b2005.2 | omega⟩)
    have Fs2006 := eqF hs2006 (fm_I F (inl_ok (a := 77) rfl))
    have vs2006 : iI s2006 77 = ((iI t 77) + 1) := eqI hs2006 (iI_u ⟨by first | exact oq_74de1e16 b2005.1 | omega, by first | exact oq_964ce197 b2005.2 | omega⟩)
    have ws2006_75 : iI s2006 75 = iI t 75 := eqI hs2006 rfl
    have ws2006_79 : iI s2006 79 = iI t 79 := eqI hs2006 rfl
    have ws2006_78 : iI s2006 78 = iI t 78 := eqI hs2006 rfl
    have fs2006 : Fm [77] [] t s2006 := by rw [hs2006]; exact fm_I (fm_rf _ _ _) (show 77 ∈ _ by decide)
    have JFDB_s2006 : FDB B N s2006 := FDB_fm fs2006 (by decide) jjFDB
    refine z_aload_n X (x := A 179) rfl (List.Mem.head _) (z_callV X 179 (rm := (rkR (3 * (r + 1) + 2))) (As := []) (st := []) rfl rfl (by decide) rfl (by rw [E.1, E.2.1, E.2.2.1]; exact (k_sumr5 G (B := B) (N := N) (r + 1)).2.2 Is2006 JFDB_s2006 (by first | exact oq_eb11e9a5 vs2006 hi.2.2.2.1 | omega) (by first | exact oq_82f073b0 ws2006_78 p1 hi.2.1 | omega) (by first | exact oq_59527f56 ws2006_78 hi.2.1 hi.1 p2 | omega)) ⟨by rw [E.2.2.2]; exact (show (12 + (3 * (r + 1) + 2)) + 1 ≤ (12 + (24 + 3 * (r + 1))) from oq_78548c36 r), by rw [E.2.2.2]; exact (show 8 + (4 + 11) + (500 + 45 * (3 * (r + 1) + 2)) ≤ (500 + 45 * (24 + 3 * (r + 1))) from oq_7957a5e4 r), by rw [E.2.2.2]; exact Nat.le_refl 0, by rw [E.2.2.2]; exact Nat.le_refl 0⟩ (Nat.le_of_ble_eq_true rfl) (fun vv s2007 hq => ?_) (fun ee s2007 hq => ?_))
    rotate_left
    · obtain ⟨Is2007, Fs2007, JFDB_s2007, e2008, hv, hrs2007, hps2007⟩ := hq; cases hv
    obtain ⟨Is2007, Fs2007, JFDB_s2007, e2008, hv, hrs2007, hps2007⟩ := hq
    cases hv
    have Gs2007 := fm_tq Fs2006 Fs2007 rfl rfl
    have JFDB_s2007 : FDB B N s2007 := FDB_fm Fs2007 (by decide) JFDB_s2006
    have b2009 := bi_77 Is2007
    have ws2007_75 : iI s2007 75 = iI s2006 75 := fm_iq Fs2007 rfl
    have b2010 := bi_79 Is2007
    have b2011 := bi_78 Is2007
    show WS k 158 [(0, .ref (A 179)), (1, .int (Int32.ofInt av)), (2, .int (Int32.ofInt cv))] [.int (Int32.ofInt e2008)] (Wd A dT s2007) 0 0
    refine z_store_n X (lv' := [(3, .int (Int32.ofInt e2008)), (0, .ref (A 179)), (1, .int (Int32.ofInt av)), (2, .int (Int32.ofInt cv))]) rfl (by decide) (fun _ h => h) (WS_pq [1, 2, 3, 0] (lv' := [(0, .ref (A 179)), (1, .int (Int32.ofInt av)), (2, .int (Int32.ofInt cv)), (3, .int (Int32.ofInt e2008))]) rfl ?_)
    exact L159 _ av cv e2008 Is2007 Gs2007 JFDB_s2007 (fun e he => hq _ _ _ (by first | (clear hps2007 p3 p2; omega) | (clear p3 p2; omega) | omega) (by first | (clear hps2007 p3 p2; omega) | (clear p3 p2; omega) | omega) (by first | (clear hps2007 p3 p2; omega) | (clear p3 p2; omega) | omega) (pfv_c hps2007.2.2.2.2.2 (nmr_fm Fs2006 (by decide))) e he) (by first | (clear hps2007 p3 p2; omega) | (clear p3 p2; omega) | omega)
  refine z_aload_n X (x := A 179) rfl (List.Mem.head _) (z_getI X 179 rfl (c518_ok rfl) rfl rfl ?_)
  have b5 := bi_79 I
  refine z_if_eq X (t := 9) rfl rfl (rng_to _) (fun g6 => ?_) (fun g6 => ?_)
  ·
    refine z_aload_n X (x := A 179) rfl (List.Mem.head _) (z_callV X 179 (rm := rmN 201) (As := []) (st := []) rfl rfl (by decide) rfl (by rw [E.1, E.2.1, E.2.2.1]; exact k_wordHere3 G I jFDB (by first | exact oq_2ebc9f52 p0 | omega)) ⟨by rw [E.2.2.2]; exact (show 8 + 1 ≤ (12 + (24 + 3 * (r + 1))) from oq_91dbadf4 r), by rw [E.2.2.2]; exact (show 8 + (3 + 11) + 141 ≤ (500 + 45 * (24 + 3 * (r + 1))) from oq_2d8c6e6c r), by rw [E.2.2.2]; exact Nat.le_refl 0, by rw [E.2.2.2]; exact Nat.le_refl 0⟩ (Nat.le_of_ble_eq_true rfl) (fun vv s7 hq => ?_) (fun ee s7 hq => ?_))
    rotate_left
    · obtain ⟨Is7, Fs7, JFDB_s7, e8, hv, hrs7, hps7⟩ := hq; cases hv
    obtain ⟨Is7, Fs7, JFDB_s7, e8, hv, hrs7, hps7⟩ := hq
    have hps7p := And.intro hps7.1 (And.intro hps7.2.1 (hps7.2.2.1))
    cases hv
    have Gs7 := fm_tq F Fs7 rfl rfl
    have JFDB_s7 : FDB B N s7 := FDB_fm Fs7 (by decide) jFDB
    have b9 := bi_77 Is7
    have ws7_75 : iI s7 75 = iI s 75 := fm_iq Fs7 rfl
    have ws7_79 : iI s7 79 = iI s 79 := fm_iq Fs7 rfl
    have ws7_78 : iI s7 78 = iI s 78 := fm_iq Fs7 rfl
    show WS k 13 [(0, .ref (A 179))] [.int (Int32.ofInt e8)] (Wd A dT s7) 0 0
    obtain ⟨pz, hpz⟩ : ∃ q, q = sk B N (iI s 77) := ⟨_, rfl⟩
    have hskp : sk B N pz = pz := by rw [hpz]; exact sk_sk
    have hb : iI s7 77 = pz := by rw [hpz]; exact hps7.1
    have hwv : e8 = whV B N pz := by rw [hps7.2.1, hb]
    refine z_bipush X rfl (z_bipush X rfl (z_bipush X rfl (z_const X rfl (z_const X rfl (z_const X rfl (z_callS X (rm := rmN 202) (As := [.int (Int32.ofInt 14), .int (Int32.ofInt 15), .int (Int32.ofInt 20), .int (Int32.ofInt 0), .int (Int32.ofInt 0), .int (Int32.ofInt 0)]) (st := [.int (Int32.ofInt e8)]) rfl rfl (by rw [E.1, E.2.1, E.2.2.1]; exact k_word3 G Is7 (by first | exact ⟨by decide, by decide⟩ | omega) (by first | exact ⟨by decide, by decide⟩ | omega) (by first | exact ⟨by decide, by decide⟩ | omega) (by first | exact ⟨by decide, by decide⟩ | omega) (by first | exact ⟨by decide, by decide⟩ | omega) (by first | exact ⟨by decide, by decide⟩ | omega)) ⟨by rw [E.2.2.2]; exact (show 6 + 1 ≤ (12 + (24 + 3 * (r + 1))) from oq_51b017a3 r), by rw [E.2.2.2]; exact (show 8 + (7 + 11) + 100 ≤ (500 + 45 * (24 + 3 * (r + 1))) from oq_22dfea8e r), by rw [E.2.2.2]; exact Nat.le_refl 0, by rw [E.2.2.2]; exact Nat.le_refl 0⟩ (Nat.le_of_ble_eq_true rfl) (fun vv s10 hq => ?_) (fun ee s10 hq => ?_)))))))
    rotate_left
    · obtain ⟨rfl, e11, hv, hrs10, hps10⟩ := hq; cases hv
    obtain ⟨rfl, e11, hv, hrs10, hps10⟩ := hq
    cases hv
    show WS k 25 [(0, .ref (A 179))] [.int (Int32.ofInt e11), .int (Int32.ofInt e8)] (Wd A dT s7) 0 0
    have hk12 : e11 = 10631 := by rw [hps10.2]; decide
    refine z_icmp_ne X (t := 58) rfl rfl hrs7 hrs10 (fun g13 => ?_) (fun g13 => ?_)
    ·
      refine z_aload_n X (x := A 179) rfl (List.Mem.head _) (z_aload_n X (x := A 179) rfl (List.Mem.head _) (z_getI X 179 rfl (c518_ok rfl) rfl rfl ?_))
      have b14 := bi_77 Is7
      refine z_callV X 179 (rm := rmN 192) (As := [.int (Int32.ofInt (iI s7 77))]) (st := []) rfl rfl (by decide) rfl (by rw [E.1, E.2.1, E.2.2.1]; exact k_byteAt2 G Is7 JFDB_s7 (by first | exact ⟨b14.1, oq_5a8480eb b14.2⟩ | omega)) ⟨by rw [E.2.2.2]; exact (show 6 + 1 ≤ (12 + (24 + 3 * (r + 1))) from oq_51b017a3 r), by rw [E.2.2.2]; exact (show 8 + (2 + 11) + 100 ≤ (500 + 45 * (24 + 3 * (r + 1))) from oq_e45c9306 r), by rw [E.2.2.2]; exact Nat.le_refl 0, by rw [E.2.2.2]; exact Nat.le_refl 0⟩ (Nat.le_of_ble_eq_true rfl) (fun vv s15 hq => ?_) (fun ee s15 hq => ?_)
      rotate_left
      · obtain ⟨rfl, e16, hv, hrs15, hps15⟩ := hq; cases hv
      obtain ⟨rfl, e16, hv, hrs15, hps15⟩ := hq
      cases hv
      show WS k 66 [(0, .ref (A 179))] [.int (Int32.ofInt e16)] (Wd A dT s7) 0 0
      have hby := hps15
      rw [hb] at hby
      refine z_bipush X rfl (z_icmp_ne X (t := 99) rfl rfl hrs15 (by decide) (fun g17 => ?_) (fun g17 => ?_))
      ·
        have hnc : ¬ chT B N pz 91 := by first | (clear g17 hps15 g13 hps7 p3 p2; omega) | (clear hps15 g13 hps7 p3 p2; omega) | omega
        refine z_aload_n X (x := A 179) rfl (List.Mem.head _) (z_callV X 179 (rm := (rkR (3 * (r + 1) + 2))) (As := []) (st := []) rfl rfl (by decide) rfl (by rw [E.1, E.2.1, E.2.2.1]; exact (k_sumr5 G (B := B) (N := N) (r + 1)).2.2 Is7 JFDB_s7 (by first | (clear g17 hps15 g13 hps7 p3 p2; omega) | (clear hps15 g13 hps7 p3 p2; omega) | omega) (by first | exact oq_eaa54609 ws7_78 p1 | omega) (by first | exact oq_c953247b ws7_78 g6 p2 | omega)) ⟨by rw [E.2.2.2]; exact (show (12 + (3 * (r + 1) + 2)) + 1 ≤ (12 + (24 + 3 * (r + 1))) from oq_78548c36 r), by rw [E.2.2.2]; exact (show 8 + (4 + 11) + (500 + 45 * (3 * (r + 1) + 2)) ≤ (500 + 45 * (24 + 3 * (r + 1))) from oq_7957a5e4 r), by rw [E.2.2.2]; exact Nat.le_refl 0, by rw [E.2.2.2]; exact Nat.le_refl 0⟩ (Nat.le_of_ble_eq_true rfl) (fun vv s18 hq => ?_) (fun ee s18 hq => ?_))
        rotate_left
        · obtain ⟨Is18, Fs18, JFDB_s18, e19, hv, hrs18, hps18⟩ := hq; cases hv
        obtain ⟨Is18, Fs18, JFDB_s18, e19, hv, hrs18, hps18⟩ := hq
        cases hv
        have Gs18 := fm_tq Gs7 Fs18 rfl rfl
        have JFDB_s18 : FDB B N s18 := FDB_fm Fs18 (by decide) JFDB_s7
        have b20 := bi_77 Is18
        have ws18_75 : iI s18 75 = iI s7 75 := fm_iq Fs18 rfl
        have b21 := bi_79 Is18
        have b22 := bi_78 Is18
        show WS k 103 [(0, .ref (A 179))] [.int (Int32.ofInt e19)] (Wd A dT s18) 0 0
        refine z_store_n X (lv' := [(1, .int (Int32.ofInt e19)), (0, .ref (A 179))]) rfl (by decide) (fun _ h => h) (z_aload_n X (x := A 179) rfl (List.Mem.tail _ (List.Mem.head _)) (z_callV X 179 (rm := rmN 193) (As := []) (st := []) rfl rfl (by decide) rfl (by rw [E.1, E.2.1, E.2.2.1]; exact k_blanks2 G Is18 JFDB_s18 (by first | (clear hps18 g17 hps15 g13 hps7 p3 p2; omega) | (clear g17 hps15 g13 hps7 p3 p2; omega) | omega)) ⟨by rw [E.2.2.2]; exact (show 7 + 1 ≤ (12 + (24 + 3 * (r + 1))) from oq_36eaf53c r), by rw [E.2.2.2]; exact (show 8 + (1 + 11) + 121 ≤ (500 + 45 * (24 + 3 * (r + 1))) from oq_a27e1a18 r), by rw [E.2.2.2]; exact Nat.le_refl 0, by rw [E.2.2.2]; exact Nat.le_refl 0⟩ (Nat.le_of_ble_eq_true rfl) (fun vv s23 hq => ?_) (fun ee s23 hq => ?_)))
        rotate_left
        · obtain ⟨Is23, Fs23, JFDB_s23, hv, hps23⟩ := hq; cases hv
        obtain ⟨Is23, Fs23, JFDB_s23, hv, hps23⟩ := hq
        have hps23p := And.intro hps23.1 (hps23.2.1)
        cases hv
        have Gs23 := fm_tq Gs18 Fs23 rfl rfl
        have JFDB_s23 : FDB B N s23 := FDB_fm Fs23 (by decide) JFDB_s18
        have b25 := bi_77 Is23
        have ws23_75 : iI s23 75 = iI s18 75 := fm_iq Fs23 rfl
        have ws23_79 : iI s23 79 = iI s18 79 := fm_iq Fs23 rfl
        have ws23_78 : iI s23 78 = iI s18 78 := fm_iq Fs23 rfl
        show WS k 108 [(1, .int (Int32.ofInt e19)), (0, .ref (A 179))] [] (Wd A dT s23) 0 0
        refine z_aload_n X (x := A 179) rfl (List.Mem.tail _ (List.Mem.head _)) (z_aload_n X (x := A 179) rfl (List.Mem.tail _ (List.Mem.head _)) (z_getI X 179 rfl (c518_ok rfl) rfl rfl ?_))
        have b26 := bi_77 Is23
        refine z_callV X 179 (rm := rmN 192) (As := [.int (Int32.ofInt (iI s23 77))]) (st := []) rfl rfl (by decide) rfl (by rw [E.1, E.2.1, E.2.2.1]; exact k_byteAt2 G Is23 JFDB_s23 (by first | exact ⟨b26.1, oq_5a8480eb b26.2⟩ | omega)) ⟨by rw [E.2.2.2]; exact (show 6 + 1 ≤ (12 + (24 + 3 * (r + 1))) from oq_51b017a3 r), by rw [E.2.2.2]; exact (show 8 + (2 + 11) + 100 ≤ (500 + 45 * (24 + 3 * (r + 1))) from oq_e45c9306 r), by rw [E.2.2.2]; exact Nat.le_refl 0, by rw [E.2.2.2]; exact Nat.le_refl 0⟩ (Nat.le_of_ble_eq_true rfl) (fun vv s27 hq => ?_) (fun ee s27 hq => ?_)
        rotate_left
        · obtain ⟨rfl, e28, hv, hrs27, hps27⟩ := hq; cases hv
        obtain ⟨rfl, e28, hv, hrs27, hps27⟩ := hq
        cases hv
        show WS k 116 [(1, .int (Int32.ofInt e19)), (0, .ref (A 179))] [.int (Int32.ofInt e28)] (Wd A dT s23) 0 0
        have hby3 := hps27
        refine z_store_n X (lv' := [(2, .int (Int32.ofInt e28)), (1, .int (Int32.ofInt e19)), (0, .ref (A 179))]) rfl (by decide) (fun _ h => h) (z_load_n X (x := e28) rfl (List.Mem.head _) (z_bipush X rfl (z_icmp_eq X (t := 144) rfl rfl hrs27 (by decide) (fun g29 => ?_) (fun g29 => ?_))))
        ·
          refine WS_pq [2, 1, 0] (lv' := [(0, .ref (A 179)), (1, .int (Int32.ofInt e19)), (2, .int (Int32.ofInt e28))]) rfl ?_
          exact L144 _ e19 e28 Is23 Gs23 JFDB_s23 (fun c d bv h1 h2 h3 h4 e he => by rw [← hpz]; exact ou_cmpFv (s := s7) (a := s18) (b := s23) (c := c) (by first | (clear hps27 hps23 hps18 g17 hps15 g13 hps7 p3 p2; omega) | (clear hps23 hps18 g17 hps15 g13 hps7 p3 p2; omega) | omega) hnc (pfv_c hps18.2.2.2.2.2 (nmr_fm Gs7 (by decide))) (by first | (clear hps27 hps23 hps18 g17 hps15 g13 hps7 p3 p2; omega) | (clear hps23 hps18 g17 hps15 g13 hps7 p3 p2; omega) | omega) (by rw [show iI s7 77 = pz by first | (clear hps27 hps23 hps18 g17 hps15 g13 hps7 p3 p2; omega) | (clear hps23 hps18 g17 hps15 g13 hps7 p3 p2; omega) | omega]; exact hskp) (by first | (clear hps27 hps23 hps18 g17 hps15 g13 hps7 p3 p2; omega) | (clear hps23 hps18 g17 hps15 g13 hps7 p3 p2; omega) | omega) hps23.1 (by first | (clear hps27 hps23 hps18 g17 hps15 g13 hps7 p3 p2; omega) | (clear hps23 hps18 g17 hps15 g13 hps7 p3 p2; omega) | omega) (by first | (clear hps27 hps23 hps18 g17 hps15 g13 hps7 p3 p2; omega) | (clear hps23 hps18 g17 hps15 g13 hps7 p3 p2; omega) | omega) (by first | (clear hps27 hps23 hps18 g17 hps15 g13 hps7 p3 p2; omega) | (clear hps23 hps18 g17 hps15 g13 hps7 p3 p2; omega) | omega) (by first | (clear hps27 hps23 hps18 g17 hps15 g13 hps7 p3 p2; omega) | (clear hps23 hps18 g17 hps15 g13 hps7 p3 p2; omega) | omega) h4 (fun x y hx hy => vl_up hx hy (opc_r (c := e28) (by rw [← hps23.1]; omega) (by first | (clear hps27 hps23 hps18 g17 hps15 g13 hps7 p3 p2; omega) | (clear hps23 hps18 g17 hps15 g13 hps7 p3 p2; omega) | omega)) jcc_lt he)) (by first | exact ⟨g6, oq_d0d2714e ws23_78 ws7_78 hps18.1, oq_cde5fb8b hps7.2.2.1 hps23.2.1 hps18.2.1, by first | (clear hps27 hps23 hps18 g17 hps15 g13 hps7 p3 p2; omega) | (clear hps23 hps18 g17 hps15 g13 hps7 p3 p2; omega) | omega, by first | (clear hps27 hps23 hps18 g17 hps15 g13 hps7 p3 p2; omega) | (clear hps23 hps18 g17 hps15 g13 hps7 p3 p2; omega) | omega, oq_05338a64 g29, oq_84af290c g29⟩ | omega)
        ·
          refine z_load_n X (x := e28) rfl (List.Mem.head _) (z_bipush X rfl (z_icmp_eq X (t := 144) rfl rfl hrs27 (by decide) (fun g30 => ?_) (fun g30 => ?_)))
          ·
            refine WS_pq [2, 1, 0] (lv' := [(0, .ref (A 179)), (1, .int (Int32.ofInt e19)), (2, .int (Int32.ofInt e28))]) rfl ?_
            exact L144 _ e19 e28 Is23 Gs23 JFDB_s23 (fun c d bv h1 h2 h3 h4 e he => by rw [← hpz]; exact ou_cmpFv (s := s7) (a := s18) (b := s23) (c := c) (by first | (clear g29 hps27 hps23 hps18 g17 hps15 g13 hps7 p3 p2; omega) | (clear hps27 hps23 hps18 g17 hps15 g13 hps7 p3 p2; omega) | omega) hnc (pfv_c hps18.2.2.2.2.2 (nmr_fm Gs7 (by decide))) (by first | (clear g29 hps27 hps23 hps18 g17 hps15 g13 hps7 p3 p2; omega) | (clear hps27 hps23 hps18 g17 hps15 g13 hps7 p3 p2; omega) | omega) (by rw [show iI s7 77 = pz by first | (clear g29 hps27 hps23 hps18 g17 hps15 g13 hps7 p3 p2; omega) | (clear hps27 hps23 hps18 g17 hps15 g13 hps7 p3 p2; omega) | omega]; exact hskp) (by first | (clear g29 hps27 hps23 hps18 g17 hps15 g13 hps7 p3 p2; omega) | (clear hps27 hps23 hps18 g17 hps15 g13 hps7 p3 p2; omega) | omega) hps23.1 (by first | (clear g29 hps27 hps23 hps18 g17 hps15 g13 hps7 p3 p2; omega) | (clear hps27 hps23 hps18 g17 hps15 g13 hps7 p3 p2; omega) | omega) (by first | (clear g29 hps27 hps23 hps18 g17 hps15 g13 hps7 p3 p2; omega) | (clear hps27 hps23 hps18 g17 hps15 g13 hps7 p3 p2; omega) | omega) (by first | (clear g29 hps27 hps23 hps18 g17 hps15 g13 hps7 p3 p2; omega) | (clear hps27 hps23 hps18 g17 hps15 g13 hps7 p3 p2; omega) | omega) (by first | (clear g29 hps27 hps23 hps18 g17 hps15 g13 hps7 p3 p2; omega) | (clear hps27 hps23 hps18 g17 hps15 g13 hps7 p3 p2; omega) | omega) h4 (fun x y hx hy => vl_up hx hy (opc_r (c := e28) (by rw [← hps23.1]; omega) (by first | (clear g29 hps27 hps23 hps18 g17 hps15 g13 hps7 p3 p2; omega) | (clear hps27 hps23 hps18 g17 hps15 g13 hps7 p3 p2; omega) | omega)) jcc_lt he)) (by first | exact ⟨g6, oq_d0d2714e ws23_78 ws7_78 hps18.1, oq_cde5fb8b hps7.2.2.1 hps23.2.1 hps18.2.1, by first | (clear g29 hps27 hps23 hps18 g17 hps15 g13 hps7 p3 p2; omega) | (clear hps27 hps23 hps18 g17 hps15 g13 hps7 p3 p2; omega) | omega, by first | (clear g29 hps27 hps23 hps18 g17 hps15 g13 hps7 p3 p2; omega) | (clear hps27 hps23 hps18 g17 hps15 g13 hps7 p3 p2; omega) | omega, oq_62e77286 g30, oq_45200378 g30⟩ | omega)
          ·
            refine z_load_n X (x := e28) rfl (List.Mem.head _) (z_bipush X rfl (z_icmp_eq X (t := 144) rfl rfl hrs27 (by decide) (fun g31 => ?_) (fun g31 => ?_)))
            ·
              refine WS_pq [2, 1, 0] (lv' := [(0, .ref (A 179)), (1, .int (Int32.ofInt e19)), (2, .int (Int32.ofInt e28))]) rfl ?_
              exact L144 _ e19 e28 Is23 Gs23 JFDB_s23 (fun c d bv h1 h2 h3 h4 e he => by rw [← hpz]; exact ou_cmpFv (s := s7) (a := s18) (b := s23) (c := c) (by first | (clear g30 g29 hps27 hps23 hps18 g17 hps15 g13 hps7 p3 p2; omega) | (clear g29 hps27 hps23 hps18 g17 hps15 g13 hps7 p3 p2; omega) | omega) hnc (pfv_c hps18.2.2.2.2.2 (nmr_fm Gs7 (by decide))) (by first | (clear g30 g29 hps27 hps23 hps18 g17 hps15 g13 hps7 p3 p2; omega) | (clear g29 hps27 hps23 hps18 g17 hps15 g13 hps7 p3 p2; omega) | omega) (by rw [show iI s7 77 = pz by first | (clear g30 g29 hps27 hps23 hps18 g17 hps15 g13 hps7 p3 p2; omega) | (clear g29 hps27 hps23 hps18 g17 hps15 g13 hps7 p3 p2; omega) | omega]; exact hskp) (by first | (clear g30 g29 hps27 hps23 hps18 g17 hps15 g13 hps7 p3 p2; omega) | (clear g29 hps27 hps23 hps18 g17 hps15 g13 hps7 p3 p2; omega) | omega) hps23.1 (by first | (clear g30 g29 hps27 hps23 hps18 g17 hps15 g13 hps7 p3 p2; omega) | (clear g29 hps27 hps23 hps18 g17 hps15 g13 hps7 p3 p2; omega) | omega) (by first | (clear g30 g29 hps27 hps23 hps18 g17 hps15 g13 hps7 p3 p2; omega) | (clear g29 hps27 hps23 hps18 g17 hps15 g13 hps7 p3 p2; omega) | omega) (by first | (clear g30 g29 hps27 hps23 hps18 g17 hps15 g13 hps7 p3 p2; omega) | (clear g29 hps27 hps23 hps18 g17 hps15 g13 hps7 p3 p2; omega) | omega) (by first | (clear g30 g29 hps27 hps23 hps18 g17 hps15 g13 hps7 p3 p2; omega) | (clear g29 hps27 hps23 hps18 g17 hps15 g13 hps7 p3 p2; omega) | omega) h4 (fun x y hx hy => vl_up hx hy (opc_r (c := e28) (by rw [← hps23.1]; omega) (by first | (clear g30 g29 hps27 hps23 hps18 g17 hps15 g13 hps7 p3 p2; omega) | (clear g29 hps27 hps23 hps18 g17 hps15 g13 hps7 p3 p2; omega) | omega)) jcc_lt he)) (by first | exact ⟨g6, oq_d0d2714e ws23_78 ws7_78 hps18.1, oq_cde5fb8b hps7.2.2.1 hps23.2.1 hps18.2.1, by first | (clear g30 g29 hps27 hps23 hps18 g17 hps15 g13 hps7 p3 p2; omega) | (clear g29 hps27 hps23 hps18 g17 hps15 g13 hps7 p3 p2; omega) | omega, by first | (clear g30 g29 hps27 hps23 hps18 g17 hps15 g13 hps7 p3 p2; omega) | (clear g29 hps27 hps23 hps18 g17 hps15 g13 hps7 p3 p2; omega) | omega, oq_1786f639 g31, oq_9de8a7d6 g31⟩ | omega)
            ·
              refine z_aload_n X (x := A 179) rfl (List.Mem.tail _ (List.Mem.tail _ (List.Mem.head _))) (z_const X rfl (z_aload_n X (x := A 179) rfl (List.Mem.tail _ (List.Mem.tail _ (List.Mem.head _))) (z_getI X 179 rfl (c518_ok rfl) rfl rfl ?_)))
              have b32 := bi_77 Is23
              refine z_callV X 179 (rm := rmN 194) (As := [.int (Int32.ofInt 1), .int (Int32.ofInt (iI s23 77))]) (st := []) rfl rfl (by decide) rfl (by rw [E.1, E.2.1, E.2.2.1]; exact k_wrong3 G Is23 (by first | exact ⟨by decide, by decide⟩ | omega) (by first | exact ⟨oq_ca54ea22 b32.1, b32.2⟩ | omega)) ⟨by rw [E.2.2.2]; exact (show 6 + 1 ≤ (12 + (24 + 3 * (r + 1))) from oq_51b017a3 r), by rw [E.2.2.2]; exact (show 8 + (3 + 11) + 100 ≤ (500 + 45 * (24 + 3 * (r + 1))) from oq_53e0fa7a r), by rw [E.2.2.2]; exact Nat.le_refl 0, by rw [E.2.2.2]; exact Nat.le_refl 0⟩ (Nat.le_of_ble_eq_true rfl) (fun vv s33 hq => ?_) (fun ee s33 hq => ?_)
              rotate_left
              · obtain ⟨Is33, Fs33, hv, hps33⟩ := hq; cases hv
              obtain ⟨Is33, Fs33, hv, hps33⟩ := hq
              cases hv
              have Gs33 := fm_tq Gs23 Fs33 rfl rfl
              have JFDB_s33 : FDB B N s33 := FDB_fm Fs33 (by decide) JFDB_s23
              have ws33_77 : iI s33 77 = iI s23 77 := fm_iq Fs33 rfl
              have ws33_75 : iI s33 75 = iI s23 75 := fm_iq Fs33 rfl
              have b35 := bi_79 Is33
              have ws33_78 : iI s33 78 = iI s23 78 := fm_iq Fs33 rfl
              show WS k 144 [(2, .int (Int32.ofInt e28)), (1, .int (Int32.ofInt e19)), (0, .ref (A 179))] [] (Wd A dT s33) 0 0
              refine WS_pq [2, 1, 0] (lv' := [(0, .ref (A 179)), (1, .int (Int32.ofInt e19)), (2, .int (Int32.ofInt e28))]) rfl ?_
              exact L144 _ e19 e28 Is33 Gs33 JFDB_s33 (fun c d bv h1 h2 h3 h4 e he => by rw [← hpz]; exact ouv_any (ou_cmpFv (V := fun _ => True) (s := s7) (a := s18) (b := s23) (c := c) (by first | (clear hps33 g31 g30 g29 hps27 hps23 hps18 g17 hps15 g13 hps7 p3 p2; omega) | (clear g31 g30 g29 hps27 hps23 hps18 g17 hps15 g13 hps7 p3 p2; omega) | omega) hnc (pfv_c hps18.2.2.2.2.2 (nmr_fm Gs7 (by decide))) (by first | (clear hps33 g31 g30 g29 hps27 hps23 hps18 g17 hps15 g13 hps7 p3 p2; omega) | (clear g31 g30 g29 hps27 hps23 hps18 g17 hps15 g13 hps7 p3 p2; omega) | omega) (by rw [show iI s7 77 = pz by first | (clear hps33 g31 g30 g29 hps27 hps23 hps18 g17 hps15 g13 hps7 p3 p2; omega) | (clear g31 g30 g29 hps27 hps23 hps18 g17 hps15 g13 hps7 p3 p2; omega) | omega]; exact hskp) (by first | (clear hps33 g31 g30 g29 hps27 hps23 hps18 g17 hps15 g13 hps7 p3 p2; omega) | (clear g31 g30 g29 hps27 hps23 hps18 g17 hps15 g13 hps7 p3 p2; omega) | omega) hps23.1 (by first | (clear hps33 g31 g30 g29 hps27 hps23 hps18 g17 hps15 g13 hps7 p3 p2; omega) | (clear g31 g30 g29 hps27 hps23 hps18 g17 hps15 g13 hps7 p3 p2; omega) | omega) (by first | (clear hps33 g31 g30 g29 hps27 hps23 hps18 g17 hps15 g13 hps7 p3 p2; omega) | (clear g31 g30 g29 hps27 hps23 hps18 g17 hps15 g13 hps7 p3 p2; omega) | omega) (by first | (clear hps33 g31 g30 g29 hps27 hps23 hps18 g17 hps15 g13 hps7 p3 p2; omega) | (clear g31 g30 g29 hps27 hps23 hps18 g17 hps15 g13 hps7 p3 p2; omega) | omega) (by first | (clear hps33 g31 g30 g29 hps27 hps23 hps18 g17 hps15 g13 hps7 p3 p2; omega) | (clear g31 g30 g29 hps27 hps23 hps18 g17 hps15 g13 hps7 p3 p2; omega) | omega) h4 (fun _ _ _ _ => trivial)) (by rw [pf_fav h4 (by first | (clear hps33 g31 g30 g29 hps27 hps23 hps18 g17 hps15 g13 hps7 p3 p2; omega) | (clear g31 g30 g29 hps27 hps23 hps18 g17 hps15 g13 hps7 p3 p2; omega) | omega)]; omega)) (by first | exact ⟨g6, oq_2658fcab ws33_78 ws23_78 ws7_78 hps18.1, oq_841e4d52 ws33_77 hps7.2.2.1 hps18.2.1 hps23.2.1, by first | (clear hps33 g31 g30 g29 hps27 hps23 hps18 g17 hps15 g13 hps7 p3 p2; omega) | (clear g31 g30 g29 hps27 hps23 hps18 g17 hps15 g13 hps7 p3 p2; omega) | omega, by first | (clear hps33 g31 g30 g29 hps27 hps23 hps18 g17 hps15 g13 hps7 p3 p2; omega) | (clear g31 g30 g29 hps27 hps23 hps18 g17 hps15 g13 hps7 p3 p2; omega) | omega, oq_1b38bc36 hps27, oq_eabbb498 hps27⟩ | omega)
      ·
        have hch : chT B N pz 91 := ⟨by first | (clear hps15 g13 hps7 p3 p2; omega) | (clear g13 hps7 p3 p2; omega) | omega, by first | (clear hps15 g13 hps7 p3 p2; omega) | (clear g13 hps7 p3 p2; omega) | omega⟩
        refine z_aload_n X (x := A 179) rfl (List.Mem.head _) (z_const X rfl (z_callV X 179 (rm := rmN 205) (As := [.int (Int32.ofInt 1)]) (st := []) rfl rfl (by decide) rfl (by rw [E.1, E.2.1, E.2.2.1]; exact k_opens3 G Is7 (by first | exact ⟨by decide, by decide⟩ | omega) (by first | (clear hps15 g13 hps7 p3 p2; omega) | (clear g13 hps7 p3 p2; omega) | omega) (by first | (clear hps15 g13 hps7 p3 p2; omega) | (clear g13 hps7 p3 p2; omega) | omega)) ⟨by rw [E.2.2.2]; exact (show 7 + 1 ≤ (12 + (24 + 3 * (r + 1))) from oq_36eaf53c r), by rw [E.2.2.2]; exact (show 8 + (2 + 11) + 122 ≤ (500 + 45 * (24 + 3 * (r + 1))) from oq_2520a5c5 r), by rw [E.2.2.2]; exact Nat.le_refl 0, by rw [E.2.2.2]; exact Nat.le_refl 0⟩ (Nat.le_of_ble_eq_true rfl) (fun vv s36 hq => ?_) (fun ee s36 hq => ?_)))
        rotate_left
        · obtain ⟨Is36, Fs36, hv, hps36⟩ := hq; cases hv
        obtain ⟨Is36, Fs36, hv, hps36⟩ := hq
        have hps36p := And.intro hps36.1 (hps36.2.1)
        cases hv
        have Gs36 := fm_tq Gs7 Fs36 rfl rfl
        have JFDB_s36 : FDB B N s36 := FDB_fm Fs36 (by decide) JFDB_s7
        have b38 := bi_77 Is36
        have ws36_75 : iI s36 75 = iI s7 75 := fm_iq Fs36 rfl
        have b39 := bi_79 Is36
        have b40 := bi_78 Is36
        show WS k 76 [(0, .ref (A 179))] [] (Wd A dT s36) 0 0
        refine z_aload_n X (x := A 179) rfl (List.Mem.head _) (z_callV X 179 (rm := (rkR (24 + 3 * (r) + 2))) (As := []) (st := []) rfl rfl (by decide) rfl (by rw [E.1, E.2.1, E.2.2.1]; exact hO Is36 JFDB_s36 (by first | (clear hps36 hps15 g13 hps7 p3 p2; omega) | (clear hps15 g13 hps7 p3 p2; omega) | omega) (by first | exact oq_4fdfb4aa p1 hps36.2.1 ws7_78 | omega) (by first | exact oq_3a71b695 hps36.2.2 hps36.2.1 ws7_79 g6 | omega) (by first | (clear hps36 hps15 g13 hps7 p3 p2; omega) | (clear hps15 g13 hps7 p3 p2; omega) | omega)) ⟨by rw [E.2.2.2]; exact (show (12 + (24 + 3 * (r) + 2)) + 1 ≤ (12 + (24 + 3 * (r + 1))) from oq_853f7f04 r), by rw [E.2.2.2]; exact (show 8 + (3 + 11) + (500 + 45 * (24 + 3 * (r) + 2)) ≤ (500 + 45 * (24 + 3 * (r + 1))) from oq_4ce40754 r), by rw [E.2.2.2]; exact Nat.le_refl 0, by rw [E.2.2.2]; exact Nat.le_refl 0⟩ (Nat.le_of_ble_eq_true rfl) (fun vv s41 hq => ?_) (fun ee s41 hq => ?_))
        rotate_left
        · obtain ⟨Is41, Fs41, JFDB_s41, e42, hv, hrs41, hps41⟩ := hq; cases hv
        obtain ⟨Is41, Fs41, JFDB_s41, e42, hv, hrs41, hps41⟩ := hq
        have hps41p := And.intro hps41.1 (And.intro hps41.2.1 (hps41.2.2.2.2.2.2.2))
        cases hv
        have Gs41 := fm_tq Gs36 Fs41 rfl rfl
        have JFDB_s41 : FDB B N s41 := FDB_fm Fs41 (by decide) JFDB_s36
        have b43 := bi_77 Is41
        have ws41_75 : iI s41 75 = iI s36 75 := fm_iq Fs41 rfl
        have b44 := bi_79 Is41
        have b45 := bi_78 Is41
        show WS k 80 [(0, .ref (A 179))] [.int (Int32.ofInt e42)] (Wd A dT s41) 0 0
        refine z_store_n X (lv' := [(1, .int (Int32.ofInt e42)), (0, .ref (A 179))]) rfl (by decide) (fun _ h => h) (z_aload_n X (x := A 179) rfl (List.Mem.tail _ (List.Mem.head _)) (z_bipush X rfl (z_callV X 179 (rm := rmN 204) (As := [.int (Int32.ofInt 93)]) (st := []) rfl rfl (by decide) rfl (by rw [E.1, E.2.1, E.2.2.1]; exact k_sign3 G Is41 JFDB_s41 (by first | exact ⟨by decide, by decide⟩ | omega) (by first | (clear hps41 hps36 hps15 g13 hps7 p3 p2; omega) | (clear hps36 hps15 g13 hps7 p3 p2; omega) | omega)) ⟨by rw [E.2.2.2]; exact (show 8 + 1 ≤ (12 + (24 + 3 * (r + 1))) from oq_91dbadf4 r), by rw [E.2.2.2]; exact (show 8 + (2 + 11) + 141 ≤ (500 + 45 * (24 + 3 * (r + 1))) from oq_da5feea9 r), by rw [E.2.2.2]; exact Nat.le_refl 0, by rw [E.2.2.2]; exact Nat.le_refl 0⟩ (Nat.le_of_ble_eq_true rfl) (fun vv s46 hq => ?_) (fun ee s46 hq => ?_))))
        rotate_left
        · obtain ⟨Is46, Fs46, JFDB_s46, hv, hps46⟩ := hq; cases hv
        obtain ⟨Is46, Fs46, JFDB_s46, hv, hps46⟩ := hq
        have hps46p := And.intro hps46.1 (hps46.2.1)
        cases hv
        have Gs46 := fm_tq Gs41 Fs46 rfl rfl
        have JFDB_s46 : FDB B N s46 := FDB_fm Fs46 (by decide) JFDB_s41
        have b48 := bi_77 Is46
        have ws46_75 : iI s46 75 = iI s41 75 := fm_iq Fs46 rfl
        have b49 := bi_79 Is46
        have ws46_78 : iI s46 78 = iI s41 78 := fm_iq Fs46 rfl
        show WS k 87 [(1, .int (Int32.ofInt e42)), (0, .ref (A 179))] [] (Wd A dT s46) 0 0
        have hle : iI s46 79 = 0 → iI s46 77 ≤ N := fun h => sg_le hps46.1 h
        refine z_aload_n X (x := A 179) rfl (List.Mem.tail _ (List.Mem.head _)) (w_dup X.1 (ax_d X (show cdA 210 88 = some (.dup, 1, 0, 0, 0) from rfl)) rfl (z_getI X 179 rfl (c518_ok rfl) rfl rfl ?_))
        have b50 := bi_78 Is46
        refine z_const X rfl (z_sub X rfl (s_putI X 179 rfl (c518_ok rfl) rfl rfl (by decide) rfl rfl rfl (wd_gen (fun s51 hs51 => ?_))))
        have Is51 : Bd s51 := eqB hs51 (bd_I Is46 (show (0 : Int) ≤ ((iI s46 78) - 1) ∧ ((iI s46 78) - 1) ≤ 8 by first | exact ⟨oq_72416b87 ws46_78 hps41.1 hps36.2.1 ws7_78 b4.1, oq_d7fe5c3c b50.2⟩ | omega) ⟨by first | exact oq_c1e961c7 b50.1 | omega, by first | exact oq_22bc6706 b50.2 | omega⟩)
        have Fs51 := eqF hs51 (fm_I Gs46 (inl_ok (a := 78) rfl))
        have vs51 : iI s51 78 = ((iI s46 78) - 1) := eqI hs51 (iI_u ⟨by first | exact oq_c1e961c7 b50.1 | omega, by first | exact oq_22bc6706 b50.2 | omega⟩)
        have ws51_77 : iI s51 77 = iI s46 77 := eqI hs51 rfl
        have ws51_75 : iI s51 75 = iI s46 75 := eqI hs51 rfl
        have ws51_79 : iI s51 79 = iI s46 79 := eqI hs51 rfl
        have fs51 : Fm [78] [] s46 s51 := by rw [hs51]; exact fm_I (fm_rf _ _ _) (show 78 ∈ _ by decide)
        have JFDB_s51 : FDB B N s51 := FDB_fm fs51 (by decide) JFDB_s46
        refine z_load_n X (x := e42) rfl (List.Mem.head _) ?_
        exact w_iret X.1 q hRt (nar_ret (by first | exact hps41.2.2.2.2.2.2.1 | omega)) (ax_d X (show cdA 210 98 = some (.ireturn, 1, 0, 0, 0) from rfl)) (Nat.zero_le _) (Nat.zero_le _) ⟨_, rfl, Is51, Fs51, JFDB_s51, e42, rfl, hrs41, ⟨by first | exact oq_a5539f03 vs51 ws7_78 hps36.2.1 ws46_78 hps41.1 | omega, by first | exact oq_a0f29d8a ws51_77 hps7.2.2.1 hps46.2.1 hps41.2.1 hps36.1 | omega, by first | (clear hps46 hps41 hps36 hps15 g13 hps7 p3 p2; omega) | (clear hps41 hps36 hps15 g13 hps7 p3 p2; omega) | omega, by first | exact oq_e013ad0f g6 | omega, by first | (clear hps46 hps41 hps36 hps15 g13 hps7 p3 p2; omega) | (clear hps41 hps36 hps15 g13 hps7 p3 p2; omega) | omega, by first | exact oq_e14a4589 ws51_77 hps46.2.1 hps41.2.1 hps36.1 hps7.2.2.1 | omega, by first | exact hps41.2.2.2.2.2.2.1 | omega, Or.inr ⟨by first | (clear hps46 hps41 hps36 hps15 g13 hps7 p3 p2; omega) | (clear hps41 hps36 hps15 g13 hps7 p3 p2; omega) | omega, by rw [← hpz]; exact ou_mvv (ou_brkFv (by first | (clear hps46 hps41 hps36 hps15 g13 hps7 p3 p2; omega) | (clear hps41 hps36 hps15 g13 hps7 p3 p2; omega) | omega) hch (by first | (clear hps46 hps41 hps36 hps15 g13 hps7 p3 p2; omega) | (clear hps41 hps36 hps15 g13 hps7 p3 p2; omega) | omega) (by first | (clear hps46 hps41 hps36 hps15 g13 hps7 p3 p2; omega) | (clear hps41 hps36 hps15 g13 hps7 p3 p2; omega) | omega) (by first | (clear hps46 hps41 hps36 hps15 g13 hps7 p3 p2; omega) | (clear hps41 hps36 hps15 g13 hps7 p3 p2; omega) | omega) (by first | (clear hps46 hps41 hps36 hps15 g13 hps7 p3 p2; omega) | (clear hps41 hps36 hps15 g13 hps7 p3 p2; omega) | omega) (pfv_c hps41.2.2.2.2.2.2.2 (nmr_fm Gs36 (by decide))) hps46.1) (by rw [show iI s51 77 = iI s46 77 by first | (clear hps46 hps41 hps36 hps15 g13 hps7 p3 p2; omega) | (clear hps41 hps36 hps15 g13 hps7 p3 p2; omega) | omega]) (by first | (clear hps46 hps41 hps36 hps15 g13 hps7 p3 p2; omega) | (clear hps41 hps36 hps15 g13 hps7 p3 p2; omega) | omega)⟩⟩⟩
    ·
      have hl3 := wh_not (B := B) (N := N) (p := pz) (by first | (clear hps7 p3 p2; omega) | (clear p3 p2; omega) | omega)
      have hl4 : wdE B N pz ≤ N := by have z := (wd_lo (B := B) (N := N) (p := pz) _ (Nat.le_refl _)).2; omega
      refine z_aload_n X (x := A 179) rfl (List.Mem.head _) (z_const X rfl (z_callV X 179 (rm := rmN 205) (As := [.int (Int32.ofInt 3)]) (st := []) rfl rfl (by decide) rfl (by rw [E.1, E.2.1, E.2.2.1]; exact k_opens3 G Is7 (by first | exact ⟨by decide, by decide⟩ | omega) (by first | (clear hps7 p3 p2; omega) | (clear p3 p2; omega) | omega) (by first | (clear hps7 p3 p2; omega) | (clear p3 p2; omega) | omega)) ⟨by rw [E.2.2.2]; exact (show 7 + 1 ≤ (12 + (24 + 3 * (r + 1))) from oq_36eaf53c r), by rw [E.2.2.2]; exact (show 8 + (2 + 11) + 122 ≤ (500 + 45 * (24 + 3 * (r + 1))) from oq_2520a5c5 r), by rw [E.2.2.2]; exact Nat.le_refl 0, by rw [E.2.2.2]; exact Nat.le_refl 0⟩ (Nat.le_of_ble_eq_true rfl) (fun vv s52 hq => ?_) (fun ee s52 hq => ?_)))
      rotate_left
      · obtain ⟨Is52, Fs52, hv, hps52⟩ := hq; cases hv
      obtain ⟨Is52, Fs52, hv, hps52⟩ := hq
      have hps52p := And.intro hps52.1 (hps52.2.1)
      cases hv
      have Gs52 := fm_tq Gs7 Fs52 rfl rfl
      have JFDB_s52 : FDB B N s52 := FDB_fm Fs52 (by decide) JFDB_s7
      have b54 := bi_77 Is52
      have ws52_75 : iI s52 75 = iI s7 75 := fm_iq Fs52 rfl
      have b55 := bi_79 Is52
      have b56 := bi_78 Is52
      show WS k 33 [(0, .ref (A 179))] [] (Wd A dT s52) 0 0
      refine z_aload_n X (x := A 179) rfl (List.Mem.head _) (z_callV X 179 (rm := (rkR (24 + 3 * (r)))) (As := []) (st := []) rfl rfl (by decide) rfl (by rw [E.1, E.2.1, E.2.2.1]; exact hT Is52 JFDB_s52 (by first | (clear hps52 hps7 p3 p2; omega) | (clear hps7 p3 p2; omega) | omega) (by first | exact oq_4fdfb4aa p1 hps52.2.1 ws7_78 | omega) (by first | exact oq_3a71b695 hps52.2.2 hps52.2.1 ws7_79 g6 | omega) (by first | (clear hps52 hps7 p3 p2; omega) | (clear hps7 p3 p2; omega) | omega)) ⟨by rw [E.2.2.2]; exact (show (12 + (24 + 3 * (r))) + 1 ≤ (12 + (24 + 3 * (r + 1))) from oq_02269255 r), by rw [E.2.2.2]; exact (show 8 + (4 + 11) + (500 + 45 * (24 + 3 * (r))) ≤ (500 + 45 * (24 + 3 * (r + 1))) from oq_bcf847ad r), by rw [E.2.2.2]; exact Nat.le_refl 0, by rw [E.2.2.2]; exact Nat.le_refl 0⟩ (Nat.le_of_ble_eq_true rfl) (fun vv s57 hq => ?_) (fun ee s57 hq => ?_))
      rotate_left
      · obtain ⟨Is57, Fs57, JFDB_s57, e58, hv, hrs57, hps57⟩ := hq; cases hv
      obtain ⟨Is57, Fs57, JFDB_s57, e58, hv, hrs57, hps57⟩ := hq
      have hps57p := And.intro hps57.1 (And.intro hps57.2.1 (hps57.2.2.2.2.2.2.2))
      cases hv
      have Gs57 := fm_tq Gs52 Fs57 rfl rfl
      have JFDB_s57 : FDB B N s57 := FDB_fm Fs57 (by decide) JFDB_s52
      have b59 := bi_77 Is57
      have ws57_75 : iI s57 75 = iI s52 75 := fm_iq Fs57 rfl
      have b60 := bi_79 Is57
      have b61 := bi_78 Is57
      show WS k 37 [(0, .ref (A 179))] [.int (Int32.ofInt e58)] (Wd A dT s57) 0 0
      refine z_if_ne X (t := 44) rfl rfl hrs57 (fun g62 => ?_) (fun g62 => ?_)
      ·
        refine z_const X rfl (z_store_n X (lv' := [(1, .int (Int32.ofInt 0)), (0, .ref (A 179))]) rfl (by decide) (fun _ h => h) (z_aload_n X (x := A 179) rfl (List.Mem.tail _ (List.Mem.head _)) (w_dup X.1 (ax_d X (show cdA 210 47 = some (.dup, 1, 0, 0, 0) from rfl)) rfl (z_getI X 179 rfl (c518_ok rfl) rfl rfl ?_))))
        have b63 := bi_78 Is57
        refine z_const X rfl (z_sub X rfl (s_putI X 179 rfl (c518_ok rfl) rfl rfl (by decide) rfl rfl rfl (wd_gen (fun s64 hs64 => ?_))))
        have Is64 : Bd s64 := eqB hs64 (bd_I Is57 (show (0 : Int) ≤ ((iI s57 78) - 1) ∧ ((iI s57 78) - 1) ≤ 8 by first | exact ⟨oq_f92f5a7c hps57.1 hps52.2.1 ws7_78 b4.1, oq_d7fe5c3c b63.2⟩ | omega) ⟨by first | exact oq_c1e961c7 b63.1 | omega, by first | exact oq_22bc6706 b63.2 | omega⟩)
        have Fs64 := eqF hs64 (fm_I Gs57 (inl_ok (a := 78) rfl))
        have vs64 : iI s64 78 = ((iI s57 78) - 1) := eqI hs64 (iI_u ⟨by first | exact oq_c1e961c7 b63.1 | omega, by first | exact oq_22bc6706 b63.2 | omega⟩)
        have ws64_77 : iI s64 77 = iI s57 77 := eqI hs64 rfl
        have ws64_75 : iI s64 75 = iI s57 75 := eqI hs64 rfl
        have ws64_79 : iI s64 79 = iI s57 79 := eqI hs64 rfl
        have fs64 : Fm [78] [] s57 s64 := by rw [hs64]; exact fm_I (fm_rf _ _ _) (show 78 ∈ _ by decide)
        have JFDB_s64 : FDB B N s64 := FDB_fm fs64 (by decide) JFDB_s57
        refine z_load_n X (x := 0) rfl (List.Mem.head _) ?_
        exact w_iret X.1 q hRt (nar_ret (by first | exact Or.inl (by decide) | omega)) (ax_d X (show cdA 210 57 = some (.ireturn, 1, 0, 0, 0) from rfl)) (Nat.zero_le _) (Nat.zero_le _) ⟨_, rfl, Is64, Fs64, JFDB_s64, 0, rfl, (by decide), ⟨by first | exact oq_82d75f38 vs64 ws7_78 hps52.2.1 hps57.1 | omega, by first | exact oq_af08c243 ws64_77 hps7.2.2.1 hps57.2.1 hps52.1 | omega, by first | (clear g62 hps57 hps52 hps7 p3 p2; omega) | (clear hps57 hps52 hps7 p3 p2; omega) | omega, by first | exact oq_e013ad0f g6 | omega, by first | exact oq_dbc0ca79 ws64_79 ws64_77 b60.1 hps57.2.2.2.2.1 ws52_75 ws7_75 | omega, by first | exact oq_9d0a7132 ws64_77 hps57.2.1 hps52.1 hps7.2.2.1 | omega, by first | exact Or.inl (by decide) | omega, Or.inr ⟨by first | (clear g62 hps57 hps52 hps7 p3 p2; omega) | (clear hps57 hps52 hps7 p3 p2; omega) | omega, by rw [← hpz]; exact ou_mvv (ou_notFv (by first | (clear g62 hps57 hps52 hps7 p3 p2; omega) | (clear hps57 hps52 hps7 p3 p2; omega) | omega) (by first | (clear g62 hps57 hps52 hps7 p3 p2; omega) | (clear hps57 hps52 hps7 p3 p2; omega) | omega) (by first | (clear g62 hps57 hps52 hps7 p3 p2; omega) | (clear hps57 hps52 hps7 p3 p2; omega) | omega) (by first | (clear g62 hps57 hps52 hps7 p3 p2; omega) | (clear hps57 hps52 hps7 p3 p2; omega) | omega) (by first | (clear g62 hps57 hps52 hps7 p3 p2; omega) | (clear hps57 hps52 hps7 p3 p2; omega) | omega) (pfv_c hps57.2.2.2.2.2.2.2 (nmr_fm Gs52 (by decide))) (fun c hc => vl_notE hc (by first | (clear g62 hps57 hps52 hps7 p3 p2; omega) | (clear hps57 hps52 hps7 p3 p2; omega) | omega))) (by rw [show iI s64 77 = iI s57 77 by first | (clear g62 hps57 hps52 hps7 p3 p2; omega) | (clear hps57 hps52 hps7 p3 p2; omega) | omega]) (by first | (clear g62 hps57 hps52 hps7 p3 p2; omega) | (clear hps57 hps52 hps7 p3 p2; omega) | omega)⟩⟩⟩
      ·
        refine z_const X rfl (z_goto X (t := 45) rfl rfl (z_store_n X (lv' := [(1, .int (Int32.ofInt 1)), (0, .ref (A 179))]) rfl (by decide) (fun _ h => h) (z_aload_n X (x := A 179) rfl (List.Mem.tail _ (List.Mem.head _)) (w_dup X.1 (ax_d X (show cdA 210 47 = some (.dup, 1, 0, 0, 0) from rfl)) rfl (z_getI X 179 rfl (c518_ok rfl) rfl rfl ?_)))))
        have b65 := bi_78 Is57
        refine z_const X rfl (z_sub X rfl (s_putI X 179 rfl (c518_ok rfl) rfl rfl (by decide) rfl rfl rfl (wd_gen (fun s66 hs66 => ?_))))
        have Is66 : Bd s66 := eqB hs66 (bd_I Is57 (show (0 : Int) ≤ ((iI s57 78) - 1) ∧ ((iI s57 78) - 1) ≤ 8 by first | exact ⟨oq_f92f5a7c hps57.1 hps52.2.1 ws7_78 b4.1, oq_d7fe5c3c b65.2⟩ | omega) ⟨by first | exact oq_c1e961c7 b65.1 | omega, by first | exact oq_22bc6706 b65.2 | omega⟩)
        have Fs66 := eqF hs66 (fm_I Gs57 (inl_ok (a := 78) rfl))
        have vs66 : iI s66 78 = ((iI s57 78) - 1) := eqI hs66 (iI_u ⟨by first | exact oq_c1e961c7 b65.1 | omega, by first | exact oq_22bc6706 b65.2 | omega⟩)
        have ws66_77 : iI s66 77 = iI s57 77 := eqI hs66 rfl
        have ws66_75 : iI s66 75 = iI s57 75 := eqI hs66 rfl
        have ws66_79 : iI s66 79 = iI s57 79 := eqI hs66 rfl
        have fs66 : Fm [78] [] s57 s66 := by rw [hs66]; exact fm_I (fm_rf _ _ _) (show 78 ∈ _ by decide)
        have JFDB_s66 : FDB B N s66 := FDB_fm fs66 (by decide) JFDB_s57
        refine z_load_n X (x := 1) rfl (List.Mem.head _) ?_
        exact w_iret X.1 q hRt (nar_ret (by first | exact Or.inr (by decide) | omega)) (ax_d X (show cdA 210 57 = some (.ireturn, 1, 0, 0, 0) from rfl)) (Nat.zero_le _) (Nat.zero_le _) ⟨_, rfl, Is66, Fs66, JFDB_s66, 1, rfl, (by decide), ⟨by first | exact oq_82d75f38 vs66 ws7_78 hps52.2.1 hps57.1 | omega, by first | exact oq_af08c243 ws66_77 hps7.2.2.1 hps57.2.1 hps52.1 | omega, by first | (clear hps57 hps52 hps7 p3 p2; omega) | (clear hps52 hps7 p3 p2; omega) | omega, by first | exact oq_e013ad0f g6 | omega, by first | exact oq_dbc0ca79 ws66_79 ws66_77 b60.1 hps57.2.2.2.2.1 ws52_75 ws7_75 | omega, by first | exact oq_9d0a7132 ws66_77 hps57.2.1 hps52.1 hps7.2.2.1 | omega, by first | exact Or.inr (by decide) | omega, Or.inr ⟨by first | (clear hps57 hps52 hps7 p3 p2; omega) | (clear hps52 hps7 p3 p2; omega) | omega, by rw [← hpz]; exact ou_mvv (ou_notFv (by first | (clear hps57 hps52 hps7 p3 p2; omega) | (clear hps52 hps7 p3 p2; omega) | omega) (by first | (clear hps57 hps52 hps7 p3 p2; omega) | (clear hps52 hps7 p3 p2; omega) | omega) (by first | (clear hps57 hps52 hps7 p3 p2; omega) | (clear hps52 hps7 p3 p2; omega) | omega) (by first | (clear hps57 hps52 hps7 p3 p2; omega) | (clear hps52 hps7 p3 p2; omega) | omega) (by first | (clear hps57 hps52 hps7 p3 p2; omega) | (clear hps52 hps7 p3 p2; omega) | omega) (pfv_c hps57.2.2.2.2.2.2.2 (nmr_fm Gs52 (by decide))) (fun c hc => vl_notE hc (by first | (clear hps57 hps52 hps7 p3 p2; omega) | (clear hps52 hps7 p3 p2; omega) | omega))) (by rw [show iI s66 77 = iI s57 77 by first | (clear hps57 hps52 hps7 p3 p2; omega) | (clear hps52 hps7 p3 p2; omega) | omega]) (by first | (clear hps57 hps52 hps7 p3 p2; omega) | (clear hps52 hps7 p3 p2; omega) | omega)⟩⟩⟩
  ·
    refine z_const X rfl ?_
    exact w_iret X.1 q hRt (nar_ret (by first | exact Or.inl (by decide) | omega)) (ax_d X (show cdA 210 8 = some (.ireturn, 1, 0, 0, 0) from rfl)) (Nat.zero_le _) (Nat.zero_le _) ⟨_, rfl, I, F, jFDB, 0, rfl, (by decide), ⟨by first | (clear g6 p3 p2; omega) | (clear p3 p2; omega) | omega, by first | (clear g6 p3 p2; omega) | (clear p3 p2; omega) | omega, by first | exact Or.inl (by decide) | omega, by first | exact oq_4bed1c3e g6 b5.1 | omega, by first | exact oq_6a3c9b31 g6 b5.1 | omega, by first | exact oq_a49e6adf g6 b5.1 | omega, by first | exact Or.inl (by decide) | omega, Or.inl ⟨by first | (clear g6 p3 p2; omega) | (clear p3 p2; omega) | omega, by first | (clear g6 p3 p2; omega) | (clear p3 p2; omega) | omega⟩⟩⟩
set_option maxRecDepth 4000 in
theorem k_andsS5 (G : GX l s0 D tys a0 dT) {B : Nat → Int} {N : Int} {r : Nat} (hT : ∀ {s : PS}, Bd s → FDB B N s → (iI s 77 ≤ 203) → (iI s 78 + ((r : Nat) : Int) = 7) → (iI s 78 = 7 → iI s 79 ≠ 0) → (iI s 79 = 0 → iI s 77 ≤ 202) → CT l s0 D A dT 210 (rkR (24 + 3 * (r))) [.ref (A 179)] s (fun o t => Bd t ∧ Fm [77, 79, 80, 78] [] s t ∧ FDB B N t ∧ ∃ e, o = .inl (some (.int (Int32.ofInt e))) ∧ rng e ∧ (iI t 78 = iI s 78 ∧ iI s 77 ≤ iI t 77 ∧ (iI t 77 = iI s 77 ∨ iI t 77 ≤ 203) ∧ (iI s 79 ≠ 0 → iI t 79 ≠ 0) ∧ (iI t 79 = 0 → iI t 77 ≤ iI s 75) ∧ (iI s 79 = 0 → iI s 77 < iI t 77) ∧ (e = 0 ∨ e = 1) ∧ PFv (VLm (NMr s) (Int32.ofInt e)) B N 5 s t))) (I : Bd s) (jFDB : FDB B N s) (p0 : iI s 77 ≤ 203) (p1 : iI s 78 + ((r : Nat) : Int) = 7) (p2 : iI s 78 = 7 → iI s 79 ≠ 0) (p3 : iI s 79 = 0 → iI s 77 ≤ 202) : CT l s0 D A dT 211 (rkR (24 + 3 * (r) + 1)) [.ref (A 179)] s (fun o t => Bd t ∧ Fm [77, 79, 80, 78] [] s t ∧ FDB B N t ∧ ∃ e, o = .inl (some (.int (Int32.ofInt e))) ∧ rng e ∧ (iI t 78 = iI s 78 ∧ iI s 77 ≤ iI t 77 ∧ (iI t 77 = iI s 77 ∨ iI t 77 ≤ 203) ∧ (iI s 79 ≠ 0 → iI t 79 ≠ 0) ∧ (iI t 79 = 0 → iI t 77 ≤ iI s 75) ∧ (iI s 79 = 0 → iI s 77 < iI t 77) ∧ (e = 0 ∨ e = 1) ∧ PFv (VLm (NMr s) (Int32.ofInt e)) B N 6 s t)) := by
  refine ct_of G (by decide) (Nat.le_of_ble_eq_true rfl) (fun k X E hRt hXt q => ?_)
  show WS k 0 [(0, .ref (A 179))] [] _ 0 0
  have F : Fm [77, 79, 80, 78] [] s s := fm_rf _ _ s
  have hN := jFDB.2.1
  have hW := jFDB.2.2
  have b1 := bi_77 I
  have b2 := bi_75 I
  have b3 := bi_79 I
  have b4 := bi_78 I
  have L5 : ∀ (n : Nat) (t : PS) (v : Int), Bd t → Fm [77, 79, 80, 78] [] s t → FDB B N t → (PRv (VLm (NMr s) (Int32.ofInt v)) B N 7 6 s t) → (iI t 78 = iI s 78 ∧ iI s 77 ≤ iI t 77 ∧ (iI t 77 = iI s 77 ∨ iI t 77 ≤ 203) ∧ (iI s 79 ≠ 0 → iI t 79 ≠ 0) ∧ (iI t 79 = 0 → iI t 77 ≤ iI s 75) ∧ (iI s 79 = 0 → iI s 77 < iI t 77) ∧ iI t 75 = iI s 75 ∧ (v = 0 ∨ v = 1)) → (204 - iI t 77 : Int).toNat < n → (∀ (t' : PS) (v' : Int), Bd t' → Fm [77, 79, 80, 78] [] s t' → FDB B N t' → (PFv (VLm (NMr s) (Int32.ofInt v')) B N 6 s t') → (iI t' 78 = iI s 78 ∧ iI s 77 ≤ iI t' 77 ∧ (iI t' 77 = iI s 77 ∨ iI t' 77 ≤ 203) ∧ (iI s 79 ≠ 0 → iI t' 79 ≠ 0) ∧ (iI t' 79 = 0 → iI t' 77 ≤ iI s 75) ∧ (iI s 79 = 0 → iI s 77 < iI t' 77) ∧ iI t' 75 = iI s 75 ∧ (v' = 0 ∨ v' = 1)) → WS k 55 [(0, .ref (A 179)), (1, .int (Int32.ofInt v'))] [] (Wd A dT t') 0 0) → WS k 5 [(0, .ref (A 179)), (1, .int (Int32.ofInt v))] [] (Wd A dT t) 0 0 := by
    intro n
    induction n with
    | zero =>
      intro t v I F jjFDB hq hi hm kx
      exact absurd hm (Nat.not_lt_zero _)
    | succ n ih =>
      intro t v I F jjFDB hq hi hm kx
      have b1001 := bi_77 I
      have b1002 := bi_75 I
      have b1003 := bi_79 I
      have b1004 := bi_78 I
      have hN := jjFDB.2.1
      have hW := jjFDB.2.2
      refine z_aload_n X (x := A 179) rfl (List.Mem.head _) (z_getI X 179 rfl (c518_ok rfl) rfl rfl ?_)
      have b1005 := bi_79 I
      refine z_if_ne X (t := 55) rfl rfl (rng_to _) (fun g1006 => ?_) (fun g1006 => ?_)
      ·
        refine WS_pq [0, 1] (lv' := [(0, .ref (A 179)), (1, .int (Int32.ofInt v))]) rfl ?_
        exact kx _ v I F jjFDB (by first | exact prm_fav hq (by first | (clear g1006 p3 p2; omega) | (clear p3 p2; omega) | omega) | exact prmb_endv (prm_mvv hq (by rw [show iI t 77 = sk B N (iI t 77) from hpt.1]; exact sk_sk) (by first | (clear g1006 p3 p2; omega) | (clear p3 p2; omega) | omega)) (by first | (clear g1006 p3 p2; omega) | (clear p3 p2; omega) | omega) (by rw [show sk B N (iI t 77) = sk B N (iI t 77) by rw [hpt.1]; exact sk_sk]; omega)) (by first | exact ⟨hi.1, hi.2.1, hi.2.2.1, hi.2.2.2.1, hi.2.2.2.2.1, hi.2.2.2.2.2.1, hi.2.2.2.2.2.2.1, hi.2.2.2.2.2.2.2⟩ | omega)
      ·
        refine z_aload_n X (x := A 179) rfl (List.Mem.head _) (z_callV X 179 (rm := rmN 201) (As := []) (st := []) rfl rfl (by decide) rfl (by rw [E.1, E.2.1, E.2.2.1]; exact k_wordHere3 G I jjFDB (by first | exact oq_179d6548 hi.2.2.1 p0 | omega)) ⟨by rw [E.2.2.2]; exact (show 8 + 1 ≤ (12 + (24 + 3 * (r) + 1)) from oq_39e70b4f r), by rw [E.2.2.2]; exact (show 8 + (3 + 11) + 141 ≤ (500 + 45 * (24 + 3 * (r) + 1)) from oq_c22861ba r), by rw [E.2.2.2]; exact Nat.le_refl 0, by rw [E.2.2.2]; exact Nat.le_refl 0⟩ (Nat.le_of_ble_eq_true rfl) (fun vv s1007 hq => ?_) (fun ee s1007 hq => ?_))
        rotate_left
        · obtain ⟨Is1007, Fs1007, JFDB_s1007, e1008, hv, hrs1007, hps1007⟩ := hq; cases hv
        obtain ⟨Is1007, Fs1007, JFDB_s1007, e1008, hv, hrs1007, hps1007⟩ := hq
        have hps1007p := And.intro hps1007.1 (And.intro hps1007.2.1 (hps1007.2.2.1))
        cases hv
        have Gs1007 := fm_tq F Fs1007 rfl rfl
        have JFDB_s1007 : FDB B N s1007 := FDB_fm Fs1007 (by decide) jjFDB
        have b1009 := bi_77 Is1007
        have ws1007_75 : iI s1007 75 = iI t 75 := fm_iq Fs1007 rfl
        have ws1007_79 : iI s1007 79 = iI t 79 := fm_iq Fs1007 rfl
        have ws1007_78 : iI s1007 78 = iI t 78 := fm_iq Fs1007 rfl
        show WS k 16 [(0, .ref (A 179)), (1, .int (Int32.ofInt v))] [.int (Int32.ofInt e1008)] (Wd A dT s1007) 0 0
        have hwv : e1008 = whV B N (sk B N (iI t 77)) := by rw [hps1007.2.1, hps1007.1]
        refine z_const X rfl (z_bipush X rfl (z_const X rfl (z_const X rfl (z_const X rfl (z_const X rfl (z_callS X (rm := rmN 202) (As := [.int (Int32.ofInt 1), .int (Int32.ofInt 14), .int (Int32.ofInt 4), .int (Int32.ofInt 0), .int (Int32.ofInt 0), .int (Int32.ofInt 0)]) (st := [.int (Int32.ofInt e1008)]) rfl rfl (by rw [E.1, E.2.1, E.2.2.1]; exact k_word3 G Is1007 (by first | exact ⟨by decide, by decide⟩ | omega) (by first | exact ⟨by decide, by decide⟩ | omega) (by first | exact ⟨by decide, by decide⟩ | omega) (by first | exact ⟨by decide, by decide⟩ | omega) (by first | exact ⟨by decide, by decide⟩ | omega) (by first | exact ⟨by decide, by decide⟩ | omega)) ⟨by rw [E.2.2.2]; exact (show 6 + 1 ≤ (12 + (24 + 3 * (r) + 1)) from oq_daac07eb r), by rw [E.2.2.2]; exact (show 8 + (7 + 11) + 100 ≤ (500 + 45 * (24 + 3 * (r) + 1)) from oq_40ed5dd2 r), by rw [E.2.2.2]; exact Nat.le_refl 0, by rw [E.2.2.2]; exact Nat.le_refl 0⟩ (Nat.le_of_ble_eq_true rfl) (fun vv s1010 hq => ?_) (fun ee s1010 hq => ?_)))))))
        rotate_left
        · obtain ⟨rfl, e1011, hv, hrs1010, hps1010⟩ := hq; cases hv
        obtain ⟨rfl, e1011, hv, hrs1010, hps1010⟩ := hq
        cases hv
        show WS k 26 [(0, .ref (A 179)), (1, .int (Int32.ofInt v))] [.int (Int32.ofInt e1011), .int (Int32.ofInt e1008)] (Wd A dT s1007) 0 0
        have hk1012 : e1011 = 1111 := by rw [hps1010.2]; decide
        refine z_icmp_ne X (t := 55) rfl rfl hrs1007 hrs1010 (fun g1013 => ?_) (fun g1013 => ?_)
        ·
          refine WS_pq [0, 1] (lv' := [(0, .ref (A 179)), (1, .int (Int32.ofInt v))]) rfl ?_
          exact kx _ v Is1007 Gs1007 JFDB_s1007 (by first | exact prm_fav hq (by first | (clear g1013 hps1007 p3 p2; omega) | (clear hps1007 p3 p2; omega) | omega) | exact prmb_endv (prm_mvv hq (by rw [show iI s1007 77 = sk B N (iI t 77) from hps1007.1]; exact sk_sk) (by first | (clear g1013 hps1007 p3 p2; omega) | (clear hps1007 p3 p2; omega) | omega)) (by first | (clear g1013 hps1007 p3 p2; omega) | (clear hps1007 p3 p2; omega) | omega) (by rw [show sk B N (iI s1007 77) = sk B N (iI t 77) by rw [hps1007.1]; exact sk_sk]; omega)) (by first | exact ⟨oq_1aa5be9e ws1007_78 hi.1, oq_f8a2cf0e hps1007.2.2.1 hi.2.1, by first | (clear g1013 hps1007 p3 p2; omega) | (clear hps1007 p3 p2; omega) | omega, oq_67b737cd g1006 hi.2.2.2.1 b3.1, by first | (clear g1013 hps1007 p3 p2; omega) | (clear hps1007 p3 p2; omega) | omega, oq_dbd39218 hps1007.2.2.1 hi.2.2.2.2.2.1 b3.1, oq_1aa5be9e ws1007_75 hi.2.2.2.2.2.2.1, hi.2.2.2.2.2.2.2⟩ | omega)
        ·
          refine z_aload_n X (x := A 179) rfl (List.Mem.head _) (z_callV X 179 (rm := rmN 203) (As := []) (st := []) rfl rfl (by decide) rfl (by rw [E.1, E.2.1, E.2.2.1]; exact k_skipWord3 G Is1007 JFDB_s1007 (by first | (clear hps1007 p3 p2; omega) | (clear p3 p2; omega) | omega)) ⟨by rw [E.2.2.2]; exact (show 7 + 1 ≤ (12 + (24 + 3 * (r) + 1)) from oq_ede76fc4 r), by rw [E.2.2.2]; exact (show 8 + (1 + 11) + 121 ≤ (500 + 45 * (24 + 3 * (r) + 1)) from oq_71ab51d5 r), by rw [E.2.2.2]; exact Nat.le_refl 0, by rw [E.2.2.2]; exact Nat.le_refl 0⟩ (Nat.le_of_ble_eq_true rfl) (fun vv s1014 hq => ?_) (fun ee s1014 hq => ?_))
          rotate_left
          · obtain ⟨Is1014, Fs1014, JFDB_s1014, hv, hps1014⟩ := hq; cases hv
          obtain ⟨Is1014, Fs1014, JFDB_s1014, hv, hps1014⟩ := hq
          have hps1014p := And.intro hps1014.1 (hps1014.2.1)
          cases hv
          have Gs1014 := fm_tq Gs1007 Fs1014 rfl rfl
          have JFDB_s1014 : FDB B N s1014 := FDB_fm Fs1014 (by decide) JFDB_s1007
          have b1016 := bi_77 Is1014
          have ws1014_75 : iI s1014 75 = iI s1007 75 := fm_iq Fs1014 rfl
          have ws1014_79 : iI s1014 79 = iI s1007 79 := fm_iq Fs1014 rfl
          have ws1014_78 : iI s1014 78 = iI s1007 78 := fm_iq Fs1014 rfl
          show WS k 33 [(0, .ref (A 179)), (1, .int (Int32.ofInt v))] [] (Wd A dT s1014) 0 0
          refine z_aload_n X (x := A 179) rfl (List.Mem.head _) (z_callV X 179 (rm := (rkR (24 + 3 * (r)))) (As := []) (st := []) rfl rfl (by decide) rfl (by rw [E.1, E.2.1, E.2.2.1]; exact hT Is1014 JFDB_s1014 (by first | (clear hps1014 hps1007 p3 p2; omega) | (clear hps1007 p3 p2; omega) | omega) (by first | exact oq_55278851 ws1014_78 p1 ws1007_78 hi.1 | omega) (by first | exact oq_aee6e230 ws1014_78 ws1007_78 g1006 hi.2.2.2.1 hi.1 b3.1 p2 | omega) (by first | (clear hps1014 hps1007 p3 p2; omega) | (clear hps1007 p3 p2; omega) | omega)) ⟨by rw [E.2.2.2]; exact (show (12 + (24 + 3 * (r))) + 1 ≤ (12 + (24 + 3 * (r) + 1)) from oq_03e50da9 r), by rw [E.2.2.2]; exact (show 8 + (4 + 11) + (500 + 45 * (24 + 3 * (r))) ≤ (500 + 45 * (24 + 3 * (r) + 1)) from oq_cc4dfda7 r), by rw [E.2.2.2]; exact Nat.le_refl 0, by rw [E.2.2.2]; exact Nat.le_refl 0⟩ (Nat.le_of_ble_eq_true rfl) (fun vv s1017 hq => ?_) (fun ee s1017 hq => ?_))
          rotate_left
          · obtain ⟨Is1017, Fs1017, JFDB_s1017, e1018, hv, hrs1017, hps1017⟩ := hq; cases hv
          obtain ⟨Is1017, Fs1017, JFDB_s1017, e1018, hv, hrs1017, hps1017⟩ := hq
          have hps1017p := And.intro hps1017.1 (And.intro hps1017.2.1 (hps1017.2.2.2.2.2.2.2))
          cases hv
          have Gs1017 := fm_tq Gs1014 Fs1017 rfl rfl
          have JFDB_s1017 : FDB B N s1017 := FDB_fm Fs1017 (by decide) JFDB_s1014
          have b1019 := bi_77 Is1017
          have ws1017_75 : iI s1017 75 = iI s1014 75 := fm_iq Fs1017 rfl
          have b1020 := bi_79 Is1017
          have b1021 := bi_78 Is1017
          show WS k 37 [(0, .ref (A 179)), (1, .int (Int32.ofInt v))] [.int (Int32.ofInt e1018)] (Wd A dT s1017) 0 0
          refine z_store_n X (lv' := [(2, .int (Int32.ofInt e1018)), (0, .ref (A 179)), (1, .int (Int32.ofInt v))]) rfl (by decide) (fun _ h => h) (z_load_n X (x := v) rfl (List.Mem.tail _ (List.Mem.tail _ (List.Mem.head _))) (z_if_eq X (t := 50) rfl rfl ⟨by first | exact oq_bde653e9 hi.2.2.2.2.2.2.2 | omega, by first | exact oq_4ad2cb8b hi.2.2.2.2.2.2.2 | omega⟩ (fun g1022 => ?_) (fun g1022 => ?_)))
          ·
            refine z_const X rfl (z_store_n X (lv' := [(1, .int (Int32.ofInt 0)), (2, .int (Int32.ofInt e1018)), (0, .ref (A 179))]) rfl (by decide) (fun _ h => h) (z_goto X (t := 5) rfl rfl (WS_pq [2, 0] (lv' := [(0, .ref (A 179)), (1, .int (Int32.ofInt 0))]) rfl ?_)))
            exact ih _ 0 Is1017 Gs1017 JFDB_s1017 (prmb_upv hq (by first | (clear hps1017 hps1014 hps1007 p3 p2; omega) | (clear hps1014 hps1007 p3 p2; omega) | omega) (by first | (clear hps1017 hps1014 hps1007 p3 p2; omega) | (clear hps1014 hps1007 p3 p2; omega) | omega) (by rw [show iI s1014 77 = wdE B N (sk B N (iI t 77)) by rw [hps1014.1, hps1007.1]]) (by first | (clear hps1017 hps1014 hps1007 p3 p2; omega) | (clear hps1014 hps1007 p3 p2; omega) | omega) (by first | (clear hps1017 hps1014 hps1007 p3 p2; omega) | (clear hps1014 hps1007 p3 p2; omega) | omega) (pfv_c hps1017.2.2.2.2.2.2.2 (nmr_fm Gs1014 (by decide))) (fun a c ha hc => vl_up ha hc rfl (by decide) (jn_and (by first | (clear hps1017 hps1014 hps1007 p3 p2; omega) | (clear hps1014 hps1007 p3 p2; omega) | omega) (by first | (clear hps1017 hps1014 hps1007 p3 p2; omega) | (clear hps1014 hps1007 p3 p2; omega) | omega) (by first | (clear hps1017 hps1014 hps1007 p3 p2; omega) | (clear hps1014 hps1007 p3 p2; omega) | omega)))) (by first | exact ⟨oq_ac0e91e1 hps1017.1 ws1014_78 ws1007_78 hi.1, oq_161ca6a3 hps1017.2.1 hi.2.1 hps1007.2.2.1 hps1014.2.1, oq_fe22fbe9 hps1017.2.2.2.2.2.1 hps1017.2.2.1 ws1014_79 ws1007_79 g1006, oq_67b737cd g1006 hi.2.2.2.1 b3.1, oq_cfa0a9a6 b1020.1 hps1017.2.2.2.2.1 ws1014_75 ws1007_75 hi.2.2.2.2.2.2.1, oq_346a0835 hps1017.2.2.2.2.2.1 ws1014_79 hps1014.2.1 ws1007_79 hps1007.2.2.1 g1006 hi.2.1, oq_45b593e3 ws1017_75 hi.2.2.2.2.2.2.1 ws1014_75 ws1007_75, Or.inl (by decide)⟩ | omega) (by first | exact qk_me hm (oq_d64112c4 hps1017.2.2.2.2.2.1 ws1014_79 hps1014.2.1 ws1007_79 hps1007.2.2.1 g1006) (oq_a3e7b886 hi.2.2.1 p0) | omega) kx
          ·
            refine z_load_n X (x := e1018) rfl (List.Mem.head _) (z_if_eq X (t := 50) rfl rfl hrs1017 (fun g1023 => ?_) (fun g1023 => ?_))
            ·
              refine z_const X rfl (z_store_n X (lv' := [(1, .int (Int32.ofInt 0)), (2, .int (Int32.ofInt e1018)), (0, .ref (A 179))]) rfl (by decide) (fun _ h => h) (z_goto X (t := 5) rfl rfl (WS_pq [2, 0] (lv' := [(0, .ref (A 179)), (1, .int (Int32.ofInt 0))]) rfl ?_)))
              exact ih _ 0 Is1017 Gs1017 JFDB_s1017 (prmb_upv hq (by first | (clear g1022 hps1017 hps1014 hps1007 p3 p2; omega) | (clear hps1017 hps1014 hps1007 p3 p2; omega) | omega) (by first | (clear g1022 hps1017 hps1014 hps1007 p3 p2; omega) | (clear hps1017 hps1014 hps1007 p3 p2; omega) | omega) (by rw [show iI s1014 77 = wdE B N (sk B N (iI t 77)) by rw [hps1014.1, hps1007.1]]) (by first | (clear g1022 hps1017 hps1014 hps1007 p3 p2; omega) | (clear hps1017 hps1014 hps1007 p3 p2; omega) | omega) (by first | (clear g1022 hps1017 hps1014 hps1007 p3 p2; omega) | (clear hps1017 hps1014 hps1007 p3 p2; omega) | omega) (pfv_c hps1017.2.2.2.2.2.2.2 (nmr_fm Gs1014 (by decide))) (fun a c ha hc => vl_up ha hc rfl (by decide) (jn_and (by first | (clear g1022 hps1017 hps1014 hps1007 p3 p2; omega) | (clear hps1017 hps1014 hps1007 p3 p2; omega) | omega) (by first | (clear g1022 hps1017 hps1014 hps1007 p3 p2; omega) | (clear hps1017 hps1014 hps1007 p3 p2; omega) | omega) (by first | (clear g1022 hps1017 hps1014 hps1007 p3 p2; omega) | (clear hps1017 hps1014 hps1007 p3 p2; omega) | omega)))) (by first | exact ⟨oq_ac0e91e1 hps1017.1 ws1014_78 ws1007_78 hi.1, oq_161ca6a3 hps1017.2.1 hi.2.1 hps1007.2.2.1 hps1014.2.1, oq_fe22fbe9 hps1017.2.2.2.2.2.1 hps1017.2.2.1 ws1014_79 ws1007_79 g1006, oq_67b737cd g1006 hi.2.2.2.1 b3.1, oq_cfa0a9a6 b1020.1 hps1017.2.2.2.2.1 ws1014_75 ws1007_75 hi.2.2.2.2.2.2.1, oq_346a0835 hps1017.2.2.2.2.2.1 ws1014_79 hps1014.2.1 ws1007_79 hps1007.2.2.1 g1006 hi.2.1, oq_45b593e3 ws1017_75 hi.2.2.2.2.2.2.1 ws1014_75 ws1007_75, Or.inl (by decide)⟩ | omega) (by first | exact qk_me hm (oq_d64112c4 hps1017.2.2.2.2.2.1 ws1014_79 hps1014.2.1 ws1007_79 hps1007.2.2.1 g1006) (oq_a3e7b886 hi.2.2.1 p0) | omega) kx
            ·
              refine z_const X rfl (z_goto X (t := 51) rfl rfl (z_store_n X (lv' := [(1, .int (Int32.ofInt 1)), (2, .int (Int32.ofInt e1018)), (0, .ref (A 179))]) rfl (by decide) (fun _ h => h) (z_goto X (t := 5) rfl rfl (WS_pq [2, 0] (lv' := [(0, .ref (A 179)), (1, .int (Int32.ofInt 1))]) rfl ?_))))
              exact ih _ 1 Is1017 Gs1017 JFDB_s1017 (prmb_upv hq (by first | (clear g1023 g1022 hps1017 hps1014 hps1007 p3 p2; omega) | (clear g1022 hps1017 hps1014 hps1007 p3 p2; omega) | omega) (by first | (clear g1023 g1022 hps1017 hps1014 hps1007 p3 p2; omega) | (clear g1022 hps1017 hps1014 hps1007 p3 p2; omega) | omega) (by rw [show iI s1014 77 = wdE B N (sk B N (iI t 77)) by rw [hps1014.1, hps1007.1]]) (by first | (clear g1023 g1022 hps1017 hps1014 hps1007 p3 p2; omega) | (clear g1022 hps1017 hps1014 hps1007 p3 p2; omega) | omega) (by first | (clear g1023 g1022 hps1017 hps1014 hps1007 p3 p2; omega) | (clear g1022 hps1017 hps1014 hps1007 p3 p2; omega) | omega) (pfv_c hps1017.2.2.2.2.2.2.2 (nmr_fm Gs1014 (by decide))) (fun a c ha hc => vl_up ha hc rfl (by decide) (jn_and (by first | (clear g1023 g1022 hps1017 hps1014 hps1007 p3 p2; omega) | (clear g1022 hps1017 hps1014 hps1007 p3 p2; omega) | omega) (by first | (clear g1023 g1022 hps1017 hps1014 hps1007 p3 p2; omega) | (clear g1022 hps1017 hps1014 hps1007 p3 p2; omega) | omega) (by first | (clear g1023 g1022 hps1017 hps1014 hps1007 p3 p2; omega) | (clear g1022 hps1017 hps1014 hps1007 p3 p2; omega) | omega)))) (by first | exact ⟨oq_ac0e91e1 hps1017.1 ws1014_78 ws1007_78 hi.1, oq_161ca6a3 hps1017.2.1 hi.2.1 hps1007.2.2.1 hps1014.2.1, oq_fe22fbe9 hps1017.2.2.2.2.2.1 hps1017.2.2.1 ws1014_79 ws1007_79 g1006, oq_67b737cd g1006 hi.2.2.2.1 b3.1, oq_cfa0a9a6 b1020.1 hps1017.2.2.2.2.1 ws1014_75 ws1007_75 hi.2.2.2.2.2.2.1, oq_346a0835 hps1017.2.2.2.2.2.1 ws1014_79 hps1014.2.1 ws1007_79 hps1007.2.2.1 g1006 hi.2.1, oq_45b593e3 ws1017_75 hi.2.2.2.2.2.2.1 ws1014_75 ws1007_75, Or.inr (by decide)⟩ | omega) (by first | exact qk_me hm (oq_d64112c4 hps1017.2.2.2.2.2.1 ws1014_79 hps1014.2.1 ws1007_79 hps1007.2.2.1 g1006) (oq_a3e7b886 hi.2.2.1 p0) | omega) kx
  refine z_aload_n X (x := A 179) rfl (List.Mem.head _) (z_callV X 179 (rm := (rkR (24 + 3 * (r)))) (As := []) (st := []) rfl rfl (by decide) rfl (by rw [E.1, E.2.1, E.2.2.1]; exact hT I jFDB (by first | exact p0 | omega) (by first | exact p1 | omega) (by first | exact p2 | omega) (by first | exact p3 | omega)) ⟨by rw [E.2.2.2]; exact (show (12 + (24 + 3 * (r))) + 1 ≤ (12 + (24 + 3 * (r) + 1)) from oq_03e50da9 r), by rw [E.2.2.2]; exact (show 8 + (4 + 11) + (500 + 45 * (24 + 3 * (r))) ≤ (500 + 45 * (24 + 3 * (r) + 1)) from oq_cc4dfda7 r), by rw [E.2.2.2]; exact Nat.le_refl 0, by rw [E.2.2.2]; exact Nat.le_refl 0⟩ (Nat.le_of_ble_eq_true rfl) (fun vv s5 hq => ?_) (fun ee s5 hq => ?_))
  rotate_left
  · obtain ⟨Is5, Fs5, JFDB_s5, e6, hv, hrs5, hps5⟩ := hq; cases hv
  obtain ⟨Is5, Fs5, JFDB_s5, e6, hv, hrs5, hps5⟩ := hq
  have hps5p := And.intro hps5.1 (And.intro hps5.2.1 (hps5.2.2.2.2.2.2.2))
  cases hv
  have Gs5 := fm_tq F Fs5 rfl rfl
  have JFDB_s5 : FDB B N s5 := FDB_fm Fs5 (by decide) jFDB
  have b7 := bi_77 Is5
  have ws5_75 : iI s5 75 = iI s 75 := fm_iq Fs5 rfl
  have b8 := bi_79 Is5
  have b9 := bi_78 Is5
  show WS k 4 [(0, .ref (A 179))] [.int (Int32.ofInt e6)] (Wd A dT s5) 0 0
  refine z_store_n X (lv' := [(1, .int (Int32.ofInt e6)), (0, .ref (A 179))]) rfl (by decide) (fun _ h => h) (WS_pq [1, 0] (lv' := [(0, .ref (A 179)), (1, .int (Int32.ofInt e6))]) rfl (L5 ((204 - iI s5 77 : Int).toNat + 1) s5 e6 Is5 Gs5 JFDB_s5 (prmb_0v hps5.2.2.2.2.2.2.2) (by first | exact ⟨hps5.1, hps5.2.1, hps5.2.2.1, hps5.2.2.2.1, hps5.2.2.2.2.1, hps5.2.2.2.2.2.1, ws5_75, hps5.2.2.2.2.2.2.1⟩ | omega) (Nat.lt_succ_self _) ?_))
  intro s10 x11 Is10 Fs10 JFDB_s10 Qs10 hs10
  have b12 := bi_77 Is10
  have b13 := bi_75 Is10
  have b14 := bi_79 Is10
  have b15 := bi_78 Is10
  have hNs10 := JFDB_s10.2.1
  have hWs10 := JFDB_s10.2.2
  refine z_load_n X (x := x11) rfl (List.Mem.tail _ (List.Mem.head _)) ?_
  exact w_iret X.1 q hRt (nar_ret (by first | exact hs10.2.2.2.2.2.2.2 | omega)) (ax_d X (show cdA 211 56 = some (.ireturn, 1, 0, 0, 0) from rfl)) (Nat.zero_le _) (Nat.zero_le _) ⟨_, rfl, Is10, Fs10, JFDB_s10, x11, rfl, ⟨by first | exact oq_bde653e9 hs10.2.2.2.2.2.2.2 | omega, by first | exact oq_4ad2cb8b hs10.2.2.2.2.2.2.2 | omega⟩, ⟨by first | exact hs10.1 | omega, by first | exact hs10.2.1 | omega, by first | exact hs10.2.2.1 | omega, by first | exact hs10.2.2.2.1 | omega, by first | exact hs10.2.2.2.2.1 | omega, by first | exact hs10.2.2.2.2.2.1 | omega, by first | exact hs10.2.2.2.2.2.2.2 | omega, Qs10⟩⟩
set_option maxRecDepth 4000 in
theorem k_orsS5 (G : GX l s0 D tys a0 dT) {B : Nat → Int} {N : Int} {r : Nat} (hT : ∀ {s : PS}, Bd s → FDB B N s → (iI s 77 ≤ 203) → (iI s 78 + ((r : Nat) : Int) = 7) → (iI s 78 = 7 → iI s 79 ≠ 0) → (iI s 79 = 0 → iI s 77 ≤ 202) → CT l s0 D A dT 211 (rkR (24 + 3 * (r) + 1)) [.ref (A 179)] s (fun o t => Bd t ∧ Fm [77, 79, 80, 78] [] s t ∧ FDB B N t ∧ ∃ e, o = .inl (some (.int (Int32.ofInt e))) ∧ rng e ∧ (iI t 78 = iI s 78 ∧ iI s 77 ≤ iI t 77 ∧ (iI t 77 = iI s 77 ∨ iI t 77 ≤ 203) ∧ (iI s 79 ≠ 0 → iI t 79 ≠ 0) ∧ (iI t 79 = 0 → iI t 77 ≤ iI s 75) ∧ (iI s 79 = 0 → iI s 77 < iI t 77) ∧ (e = 0 ∨ e = 1) ∧ PFv (VLm (NMr s) (Int32.ofInt e)) B N 6 s t))) (I : Bd s) (jFDB : FDB B N s) (p0 : iI s 77 ≤ 203) (p1 : iI s 78 + ((r : Nat) : Int) = 7) (p2 : iI s 78 = 7 → iI s 79 ≠ 0) (p3 : iI s 79 = 0 → iI s 77 ≤ 202) : CT l s0 D A dT 212 (rkR (24 + 3 * (r) + 2)) [.ref (A 179)] s (fun o t => Bd t ∧ Fm [77, 79, 80, 78] [] s t ∧ FDB B N t ∧ ∃ e, o = .inl (some (.int (Int32.ofInt e))) ∧ rng e ∧ (iI t 78 = iI s 78 ∧ iI s 77 ≤ iI t 77 ∧ (iI t 77 = iI s 77 ∨ iI t 77 ≤ 203) ∧ (iI s 79 ≠ 0 → iI t 79 ≠ 0) ∧ (iI t 79 = 0 → iI t 77 ≤ iI s 75) ∧ (iI s 79 = 0 → iI s 77 < iI t 77) ∧ (e = 0 ∨ e = 1) ∧ PFv (VLm (NMr s) (Int32.ofInt e)) B N 8 s t)) := by
  refine ct_of G (by decide) (Nat.le_of_ble_eq_true rfl) (fun k X E hRt hXt q => ?_)
  show WS k 0 [(0, .ref (A 179))] [] _ 0 0
  have F : Fm [77, 79, 80, 78] [] s s := fm_rf _ _ s
  have hN := jFDB.2.1
  have hW := jFDB.2.2
  have b1 := bi_77 I
  have b2 := bi_75 I
  have b3 := bi_79 I
  have b4 := bi_78 I
  have L5 : ∀ (n : Nat) (t : PS) (v : Int), Bd t → Fm [77, 79, 80, 78] [] s t → FDB B N t → (PRv (VLm (NMr s) (Int32.ofInt v)) B N 9 8 s t) → (iI t 78 = iI s 78 ∧ iI s 77 ≤ iI t 77 ∧ (iI t 77 = iI s 77 ∨ iI t 77 ≤ 203) ∧ (iI s 79 ≠ 0 → iI t 79 ≠ 0) ∧ (iI t 79 = 0 → iI t 77 ≤ iI s 75) ∧ (iI s 79 = 0 → iI s 77 < iI t 77) ∧ iI t 75 = iI s 75 ∧ (v = 0 ∨ v = 1)) → (204 - iI t 77 : Int).toNat < n → (∀ (t' : PS) (v' : Int), Bd t' → Fm [77, 79, 80, 78] [] s t' → FDB B N t' → (PFv (VLm (NMr s) (Int32.ofInt v')) B N 8 s t') → (iI t' 78 = iI s 78 ∧ iI s 77 ≤ iI t' 77 ∧ (iI t' 77 = iI s 77 ∨ iI t' 77 ≤ 203) ∧ (iI s 79 ≠ 0 → iI t' 79 ≠ 0) ∧ (iI t' 79 = 0 → iI t' 77 ≤ iI s 75) ∧ (iI s 79 = 0 → iI s 77 < iI t' 77) ∧ iI t' 75 = iI s 75 ∧ (v' = 0 ∨ v' = 1)) → WS k 56 [(0, .ref (A 179)), (1, .int (Int32.ofInt v'))] [] (Wd A dT t') 0 0) → WS k 5 [(0, .ref (A 179)), (1, .int (Int32.ofInt v))] [] (Wd A dT t) 0 0 := by
    intro n
    induction n with
    | zero =>
      intro t v I F jjFDB hq hi hm kx
      exact absurd hm (Nat.not_lt_zero _)
    | succ n ih =>
      intro t v I F jjFDB hq hi hm kx
      have b1001 := bi_77 I
      have b1002 := bi_75 I
      have b1003 := bi_79 I
      have b1004 := bi_78 I
      have hN := jjFDB.2.1
      have hW := jjFDB.2.2
      refine z_aload_n X (x := A 179) rfl (List.Mem.head _) (z_getI X 179 rfl (c518_ok rfl) rfl rfl ?_)
      have b1005 := bi_79 I
      refine z_if_ne X (t := 56) rfl rfl (rng_to _) (fun g1006 => ?_) (fun g1006 => ?_)
      ·
        refine WS_pq [0, 1] (lv' := [(0, .ref (A 179)), (1, .int (Int32.ofInt v))]) rfl ?_
        exact kx _ v I F jjFDB (by first | exact prm_fav hq (by first | (clear g1006 p3 p2; omega) | (clear p3 p2; omega) | omega) | exact prme_endv (prm_mvv hq (by rw [show iI t 77 = sk B N (iI t 77) from hpt.1]; exact sk_sk) (by first | (clear g1006 p3 p2; omega) | (clear p3 p2; omega) | omega)) (by first | (clear g1006 p3 p2; omega) | (clear p3 p2; omega) | omega) (by rw [show sk B N (iI t 77) = sk B N (iI t 77) by rw [hpt.1]; exact sk_sk]; omega)) (by first | exact ⟨hi.1, hi.2.1, hi.2.2.1, hi.2.2.2.1, hi.2.2.2.2.1, hi.2.2.2.2.2.1, hi.2.2.2.2.2.2.1, hi.2.2.2.2.2.2.2⟩ | omega)
      ·
        refine z_aload_n X (x := A 179) rfl (List.Mem.head _) (z_callV X 179 (rm := rmN 201) (As := []) (st := []) rfl rfl (by decide) rfl (by rw [E.1, E.2.1, E.2.2.1]; exact k_wordHere3 G I jjFDB (by first | exact oq_179d6548 hi.2.2.1 p0 | omega)) ⟨by rw [E.2.2.2]; exact (show 8 + 1 ≤ (12 + (24 + 3 * (r) + 2)) from oq_b9f2246e r), by rw [E.2.2.2]; exact (show 8 + (3 + 11) + 141 ≤ (500 + 45 * (24 + 3 * (r) + 2)) from oq_ae9e04d0 r), by rw [E.2.2.2]; exact Nat.le_refl 0, by rw [E.2.2.2]; exact Nat.le_refl 0⟩ (Nat.le_of_ble_eq_true rfl) (fun vv s1007 hq => ?_) (fun ee s1007 hq => ?_))
        rotate_left
        · obtain ⟨Is1007, Fs1007, JFDB_s1007, e1008, hv, hrs1007, hps1007⟩ := hq; cases hv
        obtain ⟨Is1007, Fs1007, JFDB_s1007, e1008, hv, hrs1007, hps1007⟩ := hq
        have hps1007p := And.intro hps1007.1 (And.intro hps1007.2.1 (hps1007.2.2.1))
        cases hv
        have Gs1007 := fm_tq F Fs1007 rfl rfl
        have JFDB_s1007 : FDB B N s1007 := FDB_fm Fs1007 (by decide) jjFDB
        have b1009 := bi_77 Is1007
        have ws1007_75 : iI s1007 75 = iI t 75 := fm_iq Fs1007 rfl
        have ws1007_79 : iI s1007 79 = iI t 79 := fm_iq Fs1007 rfl
        have ws1007_78 : iI s1007 78 = iI t 78 := fm_iq Fs1007 rfl
        show WS k 16 [(0, .ref (A 179)), (1, .int (Int32.ofInt v))] [.int (Int32.ofInt e1008)] (Wd A dT s1007) 0 0
        have hwv : e1008 = whV B N (sk B N (iI t 77)) := by rw [hps1007.2.1, hps1007.1]
        refine z_bipush X rfl (z_bipush X rfl (z_const X rfl (z_const X rfl (z_const X rfl (z_const X rfl (z_callS X (rm := rmN 202) (As := [.int (Int32.ofInt 15), .int (Int32.ofInt 18), .int (Int32.ofInt 0), .int (Int32.ofInt 0), .int (Int32.ofInt 0), .int (Int32.ofInt 0)]) (st := [.int (Int32.ofInt e1008)]) rfl rfl (by rw [E.1, E.2.1, E.2.2.1]; exact k_word3 G Is1007 (by first | exact ⟨by decide, by decide⟩ | omega) (by first | exact ⟨by decide, by decide⟩ | omega) (by first | exact ⟨by decide, by decide⟩ | omega) (by first | exact ⟨by decide, by decide⟩ | omega) (by first | exact ⟨by decide, by decide⟩ | omega) (by first | exact ⟨by decide, by decide⟩ | omega)) ⟨by rw [E.2.2.2]; exact (show 6 + 1 ≤ (12 + (24 + 3 * (r) + 2)) from oq_4491863e r), by rw [E.2.2.2]; exact (show 8 + (7 + 11) + 100 ≤ (500 + 45 * (24 + 3 * (r) + 2)) from oq_c822b081 r), by rw [E.2.2.2]; exact Nat.le_refl 0, by rw [E.2.2.2]; exact Nat.le_refl 0⟩ (Nat.le_of_ble_eq_true rfl) (fun vv s1010 hq => ?_) (fun ee s1010 hq => ?_)))))))
        rotate_left
        · obtain ⟨rfl, e1011, hv, hrs1010, hps1010⟩ := hq; cases hv
        obtain ⟨rfl, e1011, hv, hrs1010, hps1010⟩ := hq
        cases hv
        show WS k 27 [(0, .ref (A 179)), (1, .int (Int32.ofInt v))] [.int (Int32.ofInt e1011), .int (Int32.ofInt e1008)] (Wd A dT s1007) 0 0
        have hk1012 : e1011 = 423 := by rw [hps1010.2]; decide
        refine z_icmp_ne X (t := 56) rfl rfl hrs1007 hrs1010 (fun g1013 => ?_) (fun g1013 => ?_)
        ·
          refine WS_pq [0, 1] (lv' := [(0, .ref (A 179)), (1, .int (Int32.ofInt v))]) rfl ?_
          exact kx _ v Is1007 Gs1007 JFDB_s1007 (by first | exact prm_fav hq (by first | (clear g1013 hps1007 p3 p2; omega) | (clear hps1007 p3 p2; omega) | omega) | exact prme_endv (prm_mvv hq (by rw [show iI s1007 77 = sk B N (iI t 77) from hps1007.1]; exact sk_sk) (by first | (clear g1013 hps1007 p3 p2; omega) | (clear hps1007 p3 p2; omega) | omega)) (by first | (clear g1013 hps1007 p3 p2; omega) | (clear hps1007 p3 p2; omega) | omega) (by rw [show sk B N (iI s1007 77) = sk B N (iI t 77) by rw [hps1007.1]; exact sk_sk]; omega)) (by first | exact ⟨oq_1aa5be9e ws1007_78 hi.1, oq_f8a2cf0e hps1007.2.2.1 hi.2.1, by first | (clear g1013 hps1007 p3 p2; omega) | (clear hps1007 p3 p2; omega) | omega, oq_67b737cd g1006 hi.2.2.2.1 b3.1, by first | (clear g1013 hps1007 p3 p2; omega) | (clear hps1007 p3 p2; omega) | omega, oq_dbd39218 hps1007.2.2.1 hi.2.2.2.2.2.1 b3.1, oq_1aa5be9e ws1007_75 hi.2.2.2.2.2.2.1, hi.2.2.2.2.2.2.2⟩ | omega)
        ·
          refine z_aload_n X (x := A 179) rfl (List.Mem.head _) (z_callV X 179 (rm := rmN 203) (As := []) (st := []) rfl rfl (by decide) rfl (by rw [E.1, E.2.1, E.2.2.1]; exact k_skipWord3 G Is1007 JFDB_s1007 (by first | (clear hps1007 p3 p2; omega) | (clear p3 p2; omega) | omega)) ⟨by rw [E.2.2.2]; exact (show 7 + 1 ≤ (12 + (24 + 3 * (r) + 2)) from oq_9f278ef5 r), by rw [E.2.2.2]; exact (show 8 + (1 + 11) + 121 ≤ (500 + 45 * (24 + 3 * (r) + 2)) from oq_6c94e1da r), by rw [E.2.2.2]; exact Nat.le_refl 0, by rw [E.2.2.2]; exact Nat.le_refl 0⟩ (Nat.le_of_ble_eq_true rfl) (fun vv s1014 hq => ?_) (fun ee s1014 hq => ?_))
          rotate_left
          · obtain ⟨Is1014, Fs1014, JFDB_s1014, hv, hps1014⟩ := hq; cases hv
          obtain ⟨Is1014, Fs1014, JFDB_s1014, hv, hps1014⟩ := hq
          have hps1014p := And.intro hps1014.1 (hps1014.2.1)
          cases hv
          have Gs1014 := fm_tq Gs1007 Fs1014 rfl rfl
          have JFDB_s1014 : FDB B N s1014 := FDB_fm Fs1014 (by decide) JFDB_s1007
          have b1016 := bi_77 Is1014
          have ws1014_75 : iI s1014 75 = iI s1007 75 := fm_iq Fs1014 rfl
          have ws1014_79 : iI s1014 79 = iI s1007 79 := fm_iq Fs1014 rfl
          have ws1014_78 : iI s1014 78 = iI s1007 78 := fm_iq Fs1014 rfl
          show WS k 34 [(0, .ref (A 179)), (1, .int (Int32.ofInt v))] [] (Wd A dT s1014) 0 0
          refine z_aload_n X (x := A 179) rfl (List.Mem.head _) (z_callV X 179 (rm := (rkR (24 + 3 * (r) + 1))) (As := []) (st := []) rfl rfl (by decide) rfl (by rw [E.1, E.2.1, E.2.2.1]; exact hT Is1014 JFDB_s1014 (by first | (clear hps1014 hps1007 p3 p2; omega) | (clear hps1007 p3 p2; omega) | omega) (by first | exact oq_55278851 ws1014_78 p1 ws1007_78 hi.1 | omega) (by first | exact oq_aee6e230 ws1014_78 ws1007_78 g1006 hi.2.2.2.1 hi.1 b3.1 p2 | omega) (by first | (clear hps1014 hps1007 p3 p2; omega) | (clear hps1007 p3 p2; omega) | omega)) ⟨by rw [E.2.2.2]; exact (show (12 + (24 + 3 * (r) + 1)) + 1 ≤ (12 + (24 + 3 * (r) + 2)) from oq_137d3732 r), by rw [E.2.2.2]; exact (show 8 + (3 + 11) + (500 + 45 * (24 + 3 * (r) + 1)) ≤ (500 + 45 * (24 + 3 * (r) + 2)) from oq_58b847aa r), by rw [E.2.2.2]; exact Nat.le_refl 0, by rw [E.2.2.2]; exact Nat.le_refl 0⟩ (Nat.le_of_ble_eq_true rfl) (fun vv s1017 hq => ?_) (fun ee s1017 hq => ?_))
          rotate_left
          · obtain ⟨Is1017, Fs1017, JFDB_s1017, e1018, hv, hrs1017, hps1017⟩ := hq; cases hv
          obtain ⟨Is1017, Fs1017, JFDB_s1017, e1018, hv, hrs1017, hps1017⟩ := hq
          have hps1017p := And.intro hps1017.1 (And.intro hps1017.2.1 (hps1017.2.2.2.2.2.2.2))
          cases hv
          have Gs1017 := fm_tq Gs1014 Fs1017 rfl rfl
          have JFDB_s1017 : FDB B N s1017 := FDB_fm Fs1017 (by decide) JFDB_s1014
          have b1019 := bi_77 Is1017
          have ws1017_75 : iI s1017 75 = iI s1014 75 := fm_iq Fs1017 rfl
          have b1020 := bi_79 Is1017
          have b1021 := bi_78 Is1017
          show WS k 38 [(0, .ref (A 179)), (1, .int (Int32.ofInt v))] [.int (Int32.ofInt e1018)] (Wd A dT s1017) 0 0
          refine z_store_n X (lv' := [(2, .int (Int32.ofInt e1018)), (0, .ref (A 179)), (1, .int (Int32.ofInt v))]) rfl (by decide) (fun _ h => h) (z_load_n X (x := v) rfl (List.Mem.tail _ (List.Mem.tail _ (List.Mem.head _))) (z_if_ne X (t := 47) rfl rfl ⟨by first | exact oq_bde653e9 hi.2.2.2.2.2.2.2 | omega, by first | exact oq_4ad2cb8b hi.2.2.2.2.2.2.2 | omega⟩ (fun g1022 => ?_) (fun g1022 => ?_)))
          ·
            refine z_const X rfl (z_goto X (t := 52) rfl rfl (z_store_n X (lv' := [(1, .int (Int32.ofInt 1)), (2, .int (Int32.ofInt e1018)), (0, .ref (A 179))]) rfl (by decide) (fun _ h => h) (z_goto X (t := 5) rfl rfl (WS_pq [2, 0] (lv' := [(0, .ref (A 179)), (1, .int (Int32.ofInt 1))]) rfl ?_))))
            exact ih _ 1 Is1017 Gs1017 JFDB_s1017 (prme_upv hq (by first | (clear g1022 hps1017 hps1014 hps1007 p3 p2; omega) | (clear hps1017 hps1014 hps1007 p3 p2; omega) | omega) (by first | (clear g1022 hps1017 hps1014 hps1007 p3 p2; omega) | (clear hps1017 hps1014 hps1007 p3 p2; omega) | omega) (by rw [show iI s1014 77 = wdE B N (sk B N (iI t 77)) by rw [hps1014.1, hps1007.1]]) (by first | (clear g1022 hps1017 hps1014 hps1007 p3 p2; omega) | (clear hps1017 hps1014 hps1007 p3 p2; omega) | omega) (by first | (clear g1022 hps1017 hps1014 hps1007 p3 p2; omega) | (clear hps1017 hps1014 hps1007 p3 p2; omega) | omega) (pfv_c hps1017.2.2.2.2.2.2.2 (nmr_fm Gs1014 (by decide))) (fun a c ha hc => vl_up ha hc rfl (by decide) (jn_or (by first | (clear g1022 hps1017 hps1014 hps1007 p3 p2; omega) | (clear hps1017 hps1014 hps1007 p3 p2; omega) | omega) (by first | (clear g1022 hps1017 hps1014 hps1007 p3 p2; omega) | (clear hps1017 hps1014 hps1007 p3 p2; omega) | omega) (by first | (clear g1022 hps1017 hps1014 hps1007 p3 p2; omega) | (clear hps1017 hps1014 hps1007 p3 p2; omega) | omega)))) (by first | exact ⟨oq_ac0e91e1 hps1017.1 ws1014_78 ws1007_78 hi.1, oq_161ca6a3 hps1017.2.1 hi.2.1 hps1007.2.2.1 hps1014.2.1, oq_fe22fbe9 hps1017.2.2.2.2.2.1 hps1017.2.2.1 ws1014_79 ws1007_79 g1006, oq_67b737cd g1006 hi.2.2.2.1 b3.1, oq_cfa0a9a6 b1020.1 hps1017.2.2.2.2.1 ws1014_75 ws1007_75 hi.2.2.2.2.2.2.1, oq_346a0835 hps1017.2.2.2.2.2.1 ws1014_79 hps1014.2.1 ws1007_79 hps1007.2.2.1 g1006 hi.2.1, oq_45b593e3 ws1017_75 hi.2.2.2.2.2.2.1 ws1014_75 ws1007_75, Or.inr (by decide)⟩ | omega) (by first | exact qk_me hm (oq_d64112c4 hps1017.2.2.2.2.2.1 ws1014_79 hps1014.2.1 ws1007_79 hps1007.2.2.1 g1006) (oq_a3e7b886 hi.2.2.1 p0) | omega) kx
          ·
            refine z_load_n X (x := e1018) rfl (List.Mem.head _) (z_if_eq X (t := 51) rfl rfl hrs1017 (fun g1023 => ?_) (fun g1023 => ?_))
            ·
              refine z_const X rfl (z_store_n X (lv' := [(1, .int (Int32.ofInt 0)), (2, .int (Int32.ofInt e1018)), (0, .ref (A 179))]) rfl (by decide) (fun _ h => h) (z_goto X (t := 5) rfl rfl (WS_pq [2, 0] (lv' := [(0, .ref (A 179)), (1, .int (Int32.ofInt 0))]) rfl ?_)))
              exact ih _ 0 Is1017 Gs1017 JFDB_s1017 (prme_upv hq (by first | (clear hps1017 hps1014 hps1007 p3 p2; omega) | (clear hps1014 hps1007 p3 p2; omega) | omega) (by first | (clear hps1017 hps1014 hps1007 p3 p2; omega) | (clear hps1014 hps1007 p3 p2; omega) | omega) (by rw [show iI s1014 77 = wdE B N (sk B N (iI t 77)) by rw [hps1014.1, hps1007.1]]) (by first | (clear hps1017 hps1014 hps1007 p3 p2; omega) | (clear hps1014 hps1007 p3 p2; omega) | omega) (by first | (clear hps1017 hps1014 hps1007 p3 p2; omega) | (clear hps1014 hps1007 p3 p2; omega) | omega) (pfv_c hps1017.2.2.2.2.2.2.2 (nmr_fm Gs1014 (by decide))) (fun a c ha hc => vl_up ha hc rfl (by decide) (jn_or (by first | (clear hps1017 hps1014 hps1007 p3 p2; omega) | (clear hps1014 hps1007 p3 p2; omega) | omega) (by first | (clear hps1017 hps1014 hps1007 p3 p2; omega) | (clear hps1014 hps1007 p3 p2; omega) | omega) (by first | (clear hps1017 hps1014 hps1007 p3 p2; omega) | (clear hps1014 hps1007 p3 p2; omega) | omega)))) (by first | exact ⟨oq_ac0e91e1 hps1017.1 ws1014_78 ws1007_78 hi.1, oq_161ca6a3 hps1017.2.1 hi.2.1 hps1007.2.2.1 hps1014.2.1, oq_fe22fbe9 hps1017.2.2.2.2.2.1 hps1017.2.2.1 ws1014_79 ws1007_79 g1006, oq_67b737cd g1006 hi.2.2.2.1 b3.1, oq_cfa0a9a6 b1020.1 hps1017.2.2.2.2.1 ws1014_75 ws1007_75 hi.2.2.2.2.2.2.1, oq_346a0835 hps1017.2.2.2.2.2.1 ws1014_79 hps1014.2.1 ws1007_79 hps1007.2.2.1 g1006 hi.2.1, oq_45b593e3 ws1017_75 hi.2.2.2.2.2.2.1 ws1014_75 ws1007_75, Or.inl (by decide)⟩ | omega) (by first | exact qk_me hm (oq_d64112c4 hps1017.2.2.2.2.2.1 ws1014_79 hps1014.2.1 ws1007_79 hps1007.2.2.1 g1006) (oq_a3e7b886 hi.2.2.1 p0) | omega) kx
            ·
              refine z_const X rfl (z_goto X (t := 52) rfl rfl (z_store_n X (lv' := [(1, .int (Int32.ofInt 1)), (2, .int (Int32.ofInt e1018)), (0, .ref (A 179))]) rfl (by decide) (fun _ h => h) (z_goto X (t := 5) rfl rfl (WS_pq [2, 0] (lv' := [(0, .ref (A 179)), (1, .int (Int32.ofInt 1))]) rfl ?_))))
              exact ih _ 1 Is1017 Gs1017 JFDB_s1017 (prme_upv hq (by first | (clear g1023 hps1017 hps1014 hps1007 p3 p2; omega) | (clear hps1017 hps1014 hps1007 p3 p2; omega) | omega) (by first | (clear g1023 hps1017 hps1014 hps1007 p3 p2; omega) | (clear hps1017 hps1014 hps1007 p3 p2; omega) | omega) (by rw [show iI s1014 77 = wdE B N (sk B N (iI t 77)) by rw [hps1014.1, hps1007.1]]) (by first | (clear g1023 hps1017 hps1014 hps1007 p3 p2; omega) | (clear hps1017 hps1014 hps1007 p3 p2; omega) | omega) (by first | (clear g1023 hps1017 hps1014 hps1007 p3 p2; omega) | (clear hps1017 hps1014 hps1007 p3 p2; omega) | omega) (pfv_c hps1017.2.2.2.2.2.2.2 (nmr_fm Gs1014 (by decide))) (fun a c ha hc => vl_up ha hc rfl (by decide) (jn_or (by first | (clear g1023 hps1017 hps1014 hps1007 p3 p2; omega) | (clear hps1017 hps1014 hps1007 p3 p2; omega) | omega) (by first | (clear g1023 hps1017 hps1014 hps1007 p3 p2; omega) | (clear hps1017 hps1014 hps1007 p3 p2; omega) | omega) (by first | (clear g1023 hps1017 hps1014 hps1007 p3 p2; omega) | (clear hps1017 hps1014 hps1007 p3 p2; omega) | omega)))) (by first | exact ⟨oq_ac0e91e1 hps1017.1 ws1014_78 ws1007_78 hi.1, oq_161ca6a3 hps1017.2.1 hi.2.1 hps1007.2.2.1 hps1014.2.1, oq_fe22fbe9 hps1017.2.2.2.2.2.1 hps1017.2.2.1 ws1014_79 ws1007_79 g1006, oq_67b737cd g1006 hi.2.2.2.1 b3.1, oq_cfa0a9a6 b1020.1 hps1017.2.2.2.2.1 ws1014_75 ws1007_75 hi.2.2.2.2.2.2.1, oq_346a0835 hps1017.2.2.2.2.2.1 ws1014_79 hps1014.2.1 ws1007_79 hps1007.2.2.1 g1006 hi.2.1, oq_45b593e3 ws1017_75 hi.2.2.2.2.2.2.1 ws1014_75 ws1007_75, Or.inr (by decide)⟩ | omega) (by first | exact qk_me hm (oq_d64112c4 hps1017.2.2.2.2.2.1 ws1014_79 hps1014.2.1 ws1007_79 hps1007.2.2.1 g1006) (oq_a3e7b886 hi.2.2.1 p0) | omega) kx
  refine z_aload_n X (x := A 179) rfl (List.Mem.head _) (z_callV X 179 (rm := (rkR (24 + 3 * (r) + 1))) (As := []) (st := []) rfl rfl (by decide) rfl (by rw [E.1, E.2.1, E.2.2.1]; exact hT I jFDB (by first | exact p0 | omega) (by first | exact p1 | omega) (by first | exact p2 | omega) (by first | exact p3 | omega)) ⟨by rw [E.2.2.2]; exact (show (12 + (24 + 3 * (r) + 1)) + 1 ≤ (12 + (24 + 3 * (r) + 2)) from oq_137d3732 r), by rw [E.2.2.2]; exact (show 8 + (3 + 11) + (500 + 45 * (24 + 3 * (r) + 1)) ≤ (500 + 45 * (24 + 3 * (r) + 2)) from oq_58b847aa r), by rw [E.2.2.2]; exact Nat.le_refl 0, by rw [E.2.2.2]; exact Nat.le_refl 0⟩ (Nat.le_of_ble_eq_true rfl) (fun vv s5 hq => ?_) (fun ee s5 hq => ?_))
  rotate_left
  · obtain ⟨Is5, Fs5, JFDB_s5, e6, hv, hrs5, hps5⟩ := hq; cases hv
  obtain ⟨Is5, Fs5, JFDB_s5, e6, hv, hrs5, hps5⟩ := hq
  have hps5p := And.intro hps5.1 (And.intro hps5.2.1 (hps5.2.2.2.2.2.2.2))
  cases hv
  have Gs5 := fm_tq F Fs5 rfl rfl
  have JFDB_s5 : FDB B N s5 := FDB_fm Fs5 (by decide) jFDB
  have b7 := bi_77 Is5
  have ws5_75 : iI s5 75 = iI s 75 := fm_iq Fs5 rfl
  have b8 := bi_79 Is5
  have b9 := bi_78 Is5
  show WS k 4 [(0, .ref (A 179))] [.int (Int32.ofInt e6)] (Wd A dT s5) 0 0
  refine z_store_n X (lv' := [(1, .int (Int32.ofInt e6)), (0, .ref (A 179))]) rfl (by decide) (fun _ h => h) (WS_pq [1, 0] (lv' := [(0, .ref (A 179)), (1, .int (Int32.ofInt e6))]) rfl (L5 ((204 - iI s5 77 : Int).toNat + 1) s5 e6 Is5 Gs5 JFDB_s5 (prme_0v hps5.2.2.2.2.2.2.2) (by first | exact ⟨hps5.1, hps5.2.1, hps5.2.2.1, hps5.2.2.2.1, hps5.2.2.2.2.1, hps5.2.2.2.2.2.1, ws5_75, hps5.2.2.2.2.2.2.1⟩ | omega) (Nat.lt_succ_self _) ?_))
  intro s10 x11 Is10 Fs10 JFDB_s10 Qs10 hs10
  have b12 := bi_77 Is10
  have b13 := bi_75 Is10
  have b14 := bi_79 Is10
  have b15 := bi_78 Is10
  have hNs10 := JFDB_s10.2.1
  have hWs10 := JFDB_s10.2.2
  refine z_load_n X (x := x11) rfl (List.Mem.tail _ (List.Mem.head _)) ?_
  exact w_iret X.1 q hRt (nar_ret (by first | exact hs10.2.2.2.2.2.2.2 | omega)) (ax_d X (show cdA 212 57 = some (.ireturn, 1, 0, 0, 0) from rfl)) (Nat.zero_le _) (Nat.zero_le _) ⟨_, rfl, Is10, Fs10, JFDB_s10, x11, rfl, ⟨by first | exact oq_bde653e9 hs10.2.2.2.2.2.2.2 | omega, by first | exact oq_4ad2cb8b hs10.2.2.2.2.2.2.2 | omega⟩, ⟨by first | exact hs10.1 | omega, by first | exact hs10.2.1 | omega, by first | exact hs10.2.2.1 | omega, by first | exact hs10.2.2.2.1 | omega, by first | exact hs10.2.2.2.2.1 | omega, by first | exact hs10.2.2.2.2.2.1 | omega, by first | exact hs10.2.2.2.2.2.2.2 | omega, Qs10⟩⟩
set_option maxRecDepth 4000 in
theorem k_orsr5 (G : GX l s0 D tys a0 dT) {B : Nat → Int} {N : Int} (r : Nat) : (∀ {s : PS}, Bd s → FDB B N s → (iI s 77 ≤ 203) → (iI s 78 + ((r : Nat) : Int) = 7) → (iI s 78 = 7 → iI s 79 ≠ 0) → (iI s 79 = 0 → iI s 77 ≤ 202) → CT l s0 D A dT 210 (rkR (24 + 3 * (r))) [.ref (A 179)] s (fun o t => Bd t ∧ Fm [77, 79, 80, 78] [] s t ∧ FDB B N t ∧ ∃ e, o = .inl (some (.int (Int32.ofInt e))) ∧ rng e ∧ (iI t 78 = iI s 78 ∧ iI s 77 ≤ iI t 77 ∧ (iI t 77 = iI s 77 ∨ iI t 77 ≤ 203) ∧ (iI s 79 ≠ 0 → iI t 79 ≠ 0) ∧ (iI t 79 = 0 → iI t 77 ≤ iI s 75) ∧ (iI s 79 = 0 → iI s 77 < iI t 77) ∧ (e = 0 ∨ e = 1) ∧ PFv (VLm (NMr s) (Int32.ofInt e)) B N 5 s t))) ∧ (∀ {s : PS}, Bd s → FDB B N s → (iI s 77 ≤ 203) → (iI s 78 + ((r : Nat) : Int) = 7) → (iI s 78 = 7 → iI s 79 ≠ 0) → (iI s 79 = 0 → iI s 77 ≤ 202) → CT l s0 D A dT 211 (rkR (24 + 3 * (r) + 1)) [.ref (A 179)] s (fun o t => Bd t ∧ Fm [77, 79, 80, 78] [] s t ∧ FDB B N t ∧ ∃ e, o = .inl (some (.int (Int32.ofInt e))) ∧ rng e ∧ (iI t 78 = iI s 78 ∧ iI s 77 ≤ iI t 77 ∧ (iI t 77 = iI s 77 ∨ iI t 77 ≤ 203) ∧ (iI s 79 ≠ 0 → iI t 79 ≠ 0) ∧ (iI t 79 = 0 → iI t 77 ≤ iI s 75) ∧ (iI s 79 = 0 → iI s 77 < iI t 77) ∧ (e = 0 ∨ e = 1) ∧ PFv (VLm (NMr s) (Int32.ofInt e)) B N 6 s t))) ∧ (∀ {s : PS}, Bd s → FDB B N s → (iI s 77 ≤ 203) → (iI s 78 + ((r : Nat) : Int) = 7) → (iI s 78 = 7 → iI s 79 ≠ 0) → (iI s 79 = 0 → iI s 77 ≤ 202) → CT l s0 D A dT 212 (rkR (24 + 3 * (r) + 2)) [.ref (A 179)] s (fun o t => Bd t ∧ Fm [77, 79, 80, 78] [] s t ∧ FDB B N t ∧ ∃ e, o = .inl (some (.int (Int32.ofInt e))) ∧ rng e ∧ (iI t 78 = iI s 78 ∧ iI s 77 ≤ iI t 77 ∧ (iI t 77 = iI s 77 ∨ iI t 77 ≤ 203) ∧ (iI s 79 ≠ 0 → iI t 79 ≠ 0) ∧ (iI t 79 = 0 → iI t 77 ≤ iI s 75) ∧ (iI s 79 = 0 → iI s 77 < iI t 77) ∧ (e = 0 ∨ e = 1) ∧ PFv (VLm (NMr s) (Int32.ofInt e)) B N 8 s t))) := by
  induction r with
  | zero =>
    have hT : ∀ {s : PS}, Bd s → FDB B N s → (iI s 77 ≤ 203) → (iI s 78 + ((0 : Nat) : Int) = 7) → (iI s 78 = 7 → iI s 79 ≠ 0) → (iI s 79 = 0 → iI s 77 ≤ 202) → CT l s0 D A dT 210 (rkR (24 + 3 * (0))) [.ref (A 179)] s (fun o t => Bd t ∧ Fm [77, 79, 80, 78] [] s t ∧ FDB B N t ∧ ∃ e, o = .inl (some (.int (Int32.ofInt e))) ∧ rng e ∧ (iI t 78 = iI s 78 ∧ iI s 77 ≤ iI t 77 ∧ (iI t 77 = iI s 77 ∨ iI t 77 ≤ 203) ∧ (iI s 79 ≠ 0 → iI t 79 ≠ 0) ∧ (iI t 79 = 0 → iI t 77 ≤ iI s 75) ∧ (iI s 79 = 0 → iI s 77 < iI t 77) ∧ (e = 0 ∨ e = 1) ∧ PFv (VLm (NMr s) (Int32.ofInt e)) B N 5 s t)) := fun {_} I j p0 p1 p2 p3 => k_test05 G I j p0 p1 p2 p3
    have hA : ∀ {s : PS}, Bd s → FDB B N s → (iI s 77 ≤ 203) → (iI s 78 + ((0 : Nat) : Int) = 7) → (iI s 78 = 7 → iI s 79 ≠ 0) → (iI s 79 = 0 → iI s 77 ≤ 202) → CT l s0 D A dT 211 (rkR (24 + 3 * (0) + 1)) [.ref (A 179)] s (fun o t => Bd t ∧ Fm [77, 79, 80, 78] [] s t ∧ FDB B N t ∧ ∃ e, o = .inl (some (.int (Int32.ofInt e))) ∧ rng e ∧ (iI t 78 = iI s 78 ∧ iI s 77 ≤ iI t 77 ∧ (iI t 77 = iI s 77 ∨ iI t 77 ≤ 203) ∧ (iI s 79 ≠ 0 → iI t 79 ≠ 0) ∧ (iI t 79 = 0 → iI t 77 ≤ iI s 75) ∧ (iI s 79 = 0 → iI s 77 < iI t 77) ∧ (e = 0 ∨ e = 1) ∧ PFv (VLm (NMr s) (Int32.ofInt e)) B N 6 s t)) := fun {_} I j p0 p1 p2 p3 => k_andsS5 (r := 0) G hT I j p0 p1 p2 p3
    exact ⟨hT, hA, fun {_} I j p0 p1 p2 p3 => k_orsS5 (r := 0) G hA I j p0 p1 p2 p3⟩
  | succ r ih =>
    have hT : ∀ {s : PS}, Bd s → FDB B N s → (iI s 77 ≤ 203) → (iI s 78 + ((r + 1 : Nat) : Int) = 7) → (iI s 78 = 7 → iI s 79 ≠ 0) → (iI s 79 = 0 → iI s 77 ≤ 202) → CT l s0 D A dT 210 (rkR (24 + 3 * (r + 1))) [.ref (A 179)] s (fun o t => Bd t ∧ Fm [77, 79, 80, 78] [] s t ∧ FDB B N t ∧ ∃ e, o = .inl (some (.int (Int32.ofInt e))) ∧ rng e ∧ (iI t 78 = iI s 78 ∧ iI s 77 ≤ iI t 77 ∧ (iI t 77 = iI s 77 ∨ iI t 77 ≤ 203) ∧ (iI s 79 ≠ 0 → iI t 79 ≠ 0) ∧ (iI t 79 = 0 → iI t 77 ≤ iI s 75) ∧ (iI s 79 = 0 → iI s 77 < iI t 77) ∧ (e = 0 ∨ e = 1) ∧ PFv (VLm (NMr s) (Int32.ofInt e)) B N 5 s t)) := fun {_} I j p0 p1 p2 p3 => k_testS5 G ih.1 ih.2.2 I j p0 p1 p2 p3
    have hA : ∀ {s : PS}, Bd s → FDB B N s → (iI s 77 ≤ 203) → (iI s 78 + ((r + 1 : Nat) : Int) = 7) → (iI s 78 = 7 → iI s 79 ≠ 0) → (iI s 79 = 0 → iI s 77 ≤ 202) → CT l s0 D A dT 211 (rkR (24 + 3 * (r + 1) + 1)) [.ref (A 179)] s (fun o t => Bd t ∧ Fm [77, 79, 80, 78] [] s t ∧ FDB B N t ∧ ∃ e, o = .inl (some (.int (Int32.ofInt e))) ∧ rng e ∧ (iI t 78 = iI s 78 ∧ iI s 77 ≤ iI t 77 ∧ (iI t 77 = iI s 77 ∨ iI t 77 ≤ 203) ∧ (iI s 79 ≠ 0 → iI t 79 ≠ 0) ∧ (iI t 79 = 0 → iI t 77 ≤ iI s 75) ∧ (iI s 79 = 0 → iI s 77 < iI t 77) ∧ (e = 0 ∨ e = 1) ∧ PFv (VLm (NMr s) (Int32.ofInt e)) B N 6 s t)) := fun {_} I j p0 p1 p2 p3 => k_andsS5 (r := r + 1) G hT I j p0 p1 p2 p3
    exact ⟨hT, hA, fun {_} I j p0 p1 p2 p3 => k_orsS5 (r := r + 1) G hA I j p0 p1 p2 p3⟩
end M87q9
