theorem oq_b8da4ef2 {a0 a1 a2 : Int} (h0 : a0 ≤ (a1 - a2)) (h1 : 0 ≤ a2) (h2 : a1 ≤ 200) : a0 ≤ 2147483647 := by omega
theorem oq_b99f0f32 {a0 a1 a2 : Int} (h0 : a0 ≤ (a1 - a2)) : a0 ≤ ((a1 + 1) - a2) := by omega
theorem oq_0351bda7 {a0 a1 a2 : Int} (h0 : a0 ≤ (a1 - a2)) (h1 : 0 ≤ a2) (h2 : a1 ≤ 200) : ((a0 + (-1)) - 1) < 200 := by omega
theorem oq_990e9f78 {a0 a1 a2 : Int} (h0 : a0 ≤ (a1 - a2)) (h1 : 0 ≤ a2) (h2 : a1 ≤ 200) : (((a0 + (-1)) - 1) : Int).toNat < 200 := by omega
theorem oq_863bf036 {a0 a1 a2 : Int} (h0 : a0 ≤ (a1 - a2)) (h1 : 0 ≤ a2) (h2 : a1 ≤ 200) : (a0 + (-1)) < 200 := by omega
theorem oq_ec3aca88 {a0 a1 a2 : Int} (h0 : a0 ≤ (a1 - a2)) (h1 : 0 ≤ a2) (h2 : a1 ≤ 200) : ((a0 + (-1)) : Int).toNat < 200 := by omega
theorem oq_40dc8303 {a0 : Int} (h0 : a0 ≠ (-8)) (h1 : a0 ≤ (-8)) : a0 ≤ (-9) := by omega
theorem oq_faf7ab2f {a0 a1 a2 : Int} (h0 : a0 ≤ (a1 - a2)) : (a0 + (-1)) ≤ ((a1 + 1) - a2) := by omega
theorem oq_a866b48b {a0 a1 a2 : Int} (h0 : a0 ≤ (a1 - a2)) (h1 : 0 ≤ a2) (h2 : a1 ≤ 200) : (a0 - 1) < 200 := by omega
theorem oq_a653bb33 {a0 a1 a2 : Int} (h0 : a0 ≤ (a1 - a2)) (h1 : 0 ≤ a2) (h2 : a1 ≤ 200) : ((a0 - 1) : Int).toNat < 200 := by omega
theorem oq_e14e5bb6 {a0 a1 a2 a3 a4 : Int} (h0 : 200 ≤ a0) (h1 : a1 < a2) (h2 : a2 ≤ 200) (h3 : 0 ≤ a3) (h4 : a0 ≤ (a1 - a3)) : ((a1 + 1) = a3 ∨ (a1 + 1) ≤ a4) := by omega
theorem oq_95ca5783 {a0 a1 a2 : Int} (h0 : a0 ≤ (a1 - a2)) : (a0 + 1) ≤ ((a1 + 1) - a2) := by omega
theorem oq_54ddafa6 {a0 : Int} (h0 : a0 ≠ (-1)) (h1 : a0 ≤ 7) (h2 : (-1) ≤ a0) : (a0 = a0 ∧ (0 ≤ a0 ∧ a0 ≤ 7)) := by omega
theorem oq_526a3514 {a0 a1 : Int} (h0 : a0 = a1) : 0 ≤ (a0 - a1) := by omega
/-! What the model's reading of rules comes to, with the value of what is read -/
/-- the class's stack: a code is put on it -/
def jnV (c : Int) (a b : Int32) : Int32 := if c = -9 then a + b else if c = -10 then a - b else if c = -11 then a * b else if c = -12 then (if b = 0 then 0 else a / b) else if c = -13 then (if a < b then a else b) else if c = -14 then (if b < a then a else b) else if c = -15 then (if a < b then 1 else 0) else if c = -16 then (if b < a then 1 else 0) else if c = -17 then (if a = b then 1 else 0) else if c = -18 then a &&& b else a ||| b
def stV (nm : Nat → Int32) (st : List Int32) (c : Int) : List Int32 := if -8 < c then (if 0 ≤ c then Int32.ofInt c else nm (-1 - c).toNat) :: st else if c = -8 then (match st with | a :: r => (1 - a) :: r | [] => []) else (match st with | b :: a :: r => jnV c a b :: r | x => x)
theorem jn_oth {c : Int} {a b : Int32} (h : c < -18) : jnV c a b = a ||| b := by
  unfold jnV
  rw [if_neg (by omega), if_neg (by omega), if_neg (by omega), if_neg (by omega), if_neg (by omega), if_neg (by omega), if_neg (by omega), if_neg (by omega), if_neg (by omega), if_neg (by omega)]
/-- the codes c come to v, whatever lies on the stack -/
def VLm (nm : Nat → Int32) (v : Int32) (c : List Int) : Prop := ∀ st : List Int32, c.foldl (stV nm) st = v :: st
theorem vl_num {nm : Nat → Int32} {e : Int} (h : 0 ≤ e) : VLm nm (Int32.ofInt e) [e] := fun st => by
  show stV nm st e = _
  unfold stV
  rw [if_pos (by omega), if_pos h]
theorem vl_nam {nm : Nat → Int32} {c : Int} (h : -8 < c) (h1 : c < 0) : VLm nm (nm (-1 - c).toNat) [c] := fun st => by
  show stV nm st c = _
  unfold stV
  rw [if_pos h, if_neg (by omega)]
theorem vl_not {nm : Nat → Int32} {v : Int32} {c : List Int} (h : VLm nm v c) : VLm nm (1 - v) (c ++ [-8]) := fun st => by
  rw [List.foldl_append, h st]
  rfl
theorem vl_two {nm : Nat → Int32} {v w : Int32} {c d : List Int} {o : Int} (h1 : VLm nm v c) (h2 : VLm nm w d) (ho : o < -8) : VLm nm (jnV o v w) (c ++ d ++ [o]) := fun st => by
  rw [List.foldl_append, List.foldl_append, h1 st, h2 (v :: st)]
  show stV nm (w :: v :: st) o = _
  unfold stV
  rw [if_neg (by omega), if_neg (by omega)]
theorem op_lt {B : Nat → Int} {p : Int} : opC B p < -8 := by
  unfold opC
  (repeat' split) <;> decide
/-- the reading from p on, by mode m with o open, is over in state t: its fault, or where it goes on -/
def OUv (V : List Int → Prop) (B : Nat → Int) (N : Int) (m : Nat) (p o : Int) (t : PS) : Prop := ∃ r : Rd, PGR B N m [] p o r ∧ ((iI t 79 = 0 ∧ r.1 = 0 ∧ sk B N (iI t 77) = r.2.2 ∧ V r.2.1) ∨ (iI t 79 ≠ 0 ∧ iI t 79 = r.1))
theorem ou_okv {V : List Int → Prop} {B : Nat → Int} {N : Int} {m : Nat} {p o q : Int} {c : List Int} {t : PS} (h : PGR B N m [] p o (0, c, q)) (hf : iI t 79 = 0) (hq : sk B N (iI t 77) = q) (hV : V c) : OUv V B N m p o t := ⟨_, h, Or.inl ⟨hf, rfl, hq, hV⟩⟩
theorem ou_nov {V : List Int → Prop} {B : Nat → Int} {N : Int} {m : Nat} {p o k q : Int} {c : List Int} {t : PS} (h : PGR B N m [] p o (k, c, q)) (hk : k ≠ 0) (hf : iI t 79 = k) : OUv V B N m p o t := ⟨_, h, Or.inr ⟨by omega, hf⟩⟩
theorem ou_parv {V : List Int → Prop} {B : Nat → Int} {N p o : Int} {t u : PS} (h : chT B N p 40) (ho : o < 6) (h1 : OUv V B N 3 (sk B N (p + 1)) (o + 1) t) (h2 : SGN B N 41 t u) : OUv V B N 0 p o u := by
  obtain ⟨r, r1, r2⟩ := h1
  rcases r2 with ⟨f0, z, q, hv⟩ | ⟨f0, z⟩
  · rcases h2 with ⟨c1, c2, c3⟩ | ⟨c1, c2, c3⟩
    · rw [q] at c1 c2
      exact ou_okv (pu_py h ho r1 z c1) (by omega) (by rw [c2]) hv
    · rw [q] at c1 c2
      exact ou_nov (pu_pn h ho r1 z c1) (by decide) (by omega)
  · exact ⟨r, pu_pb h ho r1 (by omega), Or.inr ⟨by rw [sg_fa h2 f0]; exact f0, by rw [sg_fa h2 f0]; exact z⟩⟩
theorem ou_twov {V V1 V2 : List Int → Prop} {B : Nat → Int} {N p o : Int} {t u v w : PS} (hd : ¬ dgP B N p) (hc : ¬ chT B N p 40) (hw : whV B N p = 6476969 ∨ whV B N p = 267347) (h : chT B N (sk B N (wdE B N p)) 40) (ho : o < 6) (h1 : OUv V1 B N 3 (sk B N (sk B N (wdE B N p) + 1)) (o + 1) t) (h2 : SGN B N 44 t u) (h3 : (iI u 79 ≠ 0 ∧ iI v 79 = iI u 79) ∨ (iI u 79 = 0 ∧ OUv V2 B N 3 (sk B N (iI u 77)) (o + 1) v)) (h4 : SGN B N 41 v w) (hV : ∀ c d, V1 c → V2 d → V (c ++ d ++ [if whV B N p = 6476969 then -13 else -14])) : OUv V B N 0 p o w := by
  obtain ⟨r, r1, r2⟩ := h1
  rcases r2 with ⟨f0, z, q, hv⟩ | ⟨f0, z⟩
  · rcases h2 with ⟨c1, c2, c3⟩ | ⟨c1, c2, c3⟩
    · rw [q] at c1 c2
      rcases h3 with h3 | ⟨-, s, s1, s2⟩
      · omega
      · rw [c2] at s1
        rcases s2 with ⟨g0, y, k, hv2⟩ | ⟨g0, y⟩
        · rcases h4 with ⟨d1, d2, d3⟩ | ⟨d1, d2, d3⟩
          · rw [k] at d1 d2
            refine ⟨_, pu_t2 hd hc hw h ho r1 z c1 s1 rfl, Or.inl ?_⟩
            unfold bnd
            rw [if_pos y]
            dsimp only
            rw [if_pos d1]
            exact ⟨by omega, rfl, by rw [d2], hV _ _ hv hv2⟩
          · rw [k] at d1 d2
            refine ⟨_, pu_t2 hd hc hw h ho r1 z c1 s1 rfl, Or.inr ?_⟩
            unfold bnd
            rw [if_pos y]
            dsimp only
            rw [if_neg d1]
            exact ⟨by omega, by omega⟩
        · refine ⟨_, pu_t2 hd hc hw h ho r1 z c1 s1 rfl, Or.inr ?_⟩
          unfold bnd
          rw [if_neg (by omega)]
          exact ⟨by rw [sg_fa h4 g0]; exact g0, by rw [sg_fa h4 g0]; exact y⟩
    · rw [q] at c1 c2
      have f1 : iI u 79 = 1 := by omega
      have f2 : iI v 79 = 1 := by
        rcases h3 with h3 | h3
        · omega
        · omega
      exact ou_nov (pu_tn hd hc hw h ho r1 z c1) (by decide) (by rw [sg_fa h4 (by omega)]; exact f2)
  · have f1 := sg_fa h2 f0
    have f2 : iI v 79 = iI t 79 := by
      rcases h3 with h3 | h3
      · omega
      · omega
    have f3 := sg_fa h4 (by omega)
    exact ⟨r, pu_tb hd hc hw h ho r1 (by omega), Or.inr ⟨by omega, by omega⟩⟩
/-- a rest that is read: whatever it comes to, the whole comes to -/
def RSv (V : List Int → Prop) (B : Nat → Int) (N : Int) (m w : Nat) (p o : Int) (t : PS) : Prop := (iI t 79 ≠ 0 ∧ OUv V B N w p o t) ∨ (iI t 79 = 0 ∧ ∃ a : List Int, V a ∧ ∀ r, PGR B N m a (sk B N (iI t 77)) o r → PGR B N w [] p o r)
theorem rst_mvv {V : List Int → Prop} {B : Nat → Int} {N : Int} {m w : Nat} {p o : Int} {t u : PS} (h : RSv V B N m w p o t) (ha : sk B N (iI u 77) = sk B N (iI t 77)) (hf : iI u 79 = iI t 79) : RSv V B N m w p o u := by
  rcases h with ⟨f0, r, r1, r2⟩ | ⟨f0, a, hv, g⟩
  · refine Or.inl ⟨by omega, r, r1, ?_⟩
    rw [hf, ha]; exact r2
  · exact Or.inr ⟨by omega, a, hv, fun r hr => g r (by rw [← ha]; exact hr)⟩
theorem ou_mvv {V : List Int → Prop} {B : Nat → Int} {N : Int} {m : Nat} {p o : Int} {t u : PS} (h : OUv V B N m p o t) (ha : sk B N (iI u 77) = sk B N (iI t 77)) (hf : iI u 79 = iI t 79) : OUv V B N m p o u := by
  obtain ⟨r, r1, r2⟩ := h
  exact ⟨r, r1, by rw [hf, ha]; exact r2⟩
theorem rst_fav {V : List Int → Prop} {B : Nat → Int} {N : Int} {m w : Nat} {p o : Int} {t : PS} (h : RSv V B N m w p o t) (hf : iI t 79 ≠ 0) : OUv V B N w p o t := by
  rcases h with h | h
  · exact h.2
  · exact absurd h.1 hf
theorem rstp_0v {V : List Int → Prop} {B : Nat → Int} {N p o : Int} {t : PS} (h : OUv V B N 0 p o t) : RSv V B N 2 1 p o t := by
  obtain ⟨r, r1, r2⟩ := h
  rcases r2 with ⟨f0, z, q, hv⟩ | ⟨f0, z⟩
  · exact Or.inr ⟨f0, r.2.1, hv, fun s hs => wp_go r1 z (by rw [← q]; exact hs)⟩
  · exact Or.inl ⟨f0, r, wp_bad r1 (by omega), Or.inr ⟨f0, z⟩⟩
theorem rstp_endv {V : List Int → Prop} {B : Nat → Int} {N p o : Int} {t : PS} (h : RSv V B N 2 1 p o t) (hf : iI t 79 = 0) (hc : ¬ (chT B N (sk B N (iI t 77)) 42 ∨ chT B N (sk B N (iI t 77)) 47)) : OUv V B N 1 p o t := by
  rcases h with h | ⟨f0, a, hv, g⟩
  · exact absurd hf h.1
  · exact ⟨_, g _ (rp_end hc), Or.inl ⟨f0, rfl, rfl, hv⟩⟩
theorem rstp_upv {V V1 V2 : List Int → Prop} {B : Nat → Int} {N p o : Int} {t u : PS} (h : RSv V B N 2 1 p o t) (hf : iI t 79 = 0) (hc : chT B N (sk B N (iI t 77)) 42 ∨ chT B N (sk B N (iI t 77)) 47) (h1 : OUv V1 B N 0 (sk B N ((sk B N (iI t 77)) + 1)) o u) (hV : ∀ a c, V a → V1 c → V2 (a ++ c ++ [opC B (sk B N (iI t 77))])) : RSv V2 B N 2 1 p o u := by
  rcases h with h | ⟨f0, a, hv, g⟩
  · exact absurd hf h.1
  · obtain ⟨r, r1, r2⟩ := h1
    rcases r2 with ⟨e0, z, q, hw⟩ | ⟨e0, z⟩
    · exact Or.inr ⟨e0, a ++ r.2.1 ++ [opC B (sk B N (iI t 77))], hV _ _ hv hw, fun s hs => g s (rp_go hc r1 z (by rw [← q]; exact hs))⟩
    · exact Or.inl ⟨e0, r, g r (rp_bad hc r1 (by omega)), Or.inr ⟨e0, z⟩⟩
theorem rsts_0v {V : List Int → Prop} {B : Nat → Int} {N p o : Int} {t : PS} (h : OUv V B N 1 p o t) : RSv V B N 4 3 p o t := by
  obtain ⟨r, r1, r2⟩ := h
  rcases r2 with ⟨f0, z, q, hv⟩ | ⟨f0, z⟩
  · exact Or.inr ⟨f0, r.2.1, hv, fun s hs => ws_go r1 z (by rw [← q]; exact hs)⟩
  · exact Or.inl ⟨f0, r, ws_bad r1 (by omega), Or.inr ⟨f0, z⟩⟩
theorem rsts_endv {V : List Int → Prop} {B : Nat → Int} {N p o : Int} {t : PS} (h : RSv V B N 4 3 p o t) (hf : iI t 79 = 0) (hc : ¬ (chT B N (sk B N (iI t 77)) 43 ∨ chT B N (sk B N (iI t 77)) 45)) : OUv V B N 3 p o t := by
  rcases h with h | ⟨f0, a, hv, g⟩
  · exact absurd hf h.1
  · exact ⟨_, g _ (rs_end hc), Or.inl ⟨f0, rfl, rfl, hv⟩⟩
theorem rsts_upv {V V1 V2 : List Int → Prop} {B : Nat → Int} {N p o : Int} {t u : PS} (h : RSv V B N 4 3 p o t) (hf : iI t 79 = 0) (hc : chT B N (sk B N (iI t 77)) 43 ∨ chT B N (sk B N (iI t 77)) 45) (h1 : OUv V1 B N 1 (sk B N ((sk B N (iI t 77)) + 1)) o u) (hV : ∀ a c, V a → V1 c → V2 (a ++ c ++ [opC B (sk B N (iI t 77))])) : RSv V2 B N 4 3 p o u := by
  rcases h with h | ⟨f0, a, hv, g⟩
  · exact absurd hf h.1
  · obtain ⟨r, r1, r2⟩ := h1
    rcases r2 with ⟨e0, z, q, hw⟩ | ⟨e0, z⟩
    · exact Or.inr ⟨e0, a ++ r.2.1 ++ [opC B (sk B N (iI t 77))], hV _ _ hv hw, fun s hs => g s (rs_go hc r1 z (by rw [← q]; exact hs))⟩
    · exact Or.inl ⟨e0, r, g r (rs_bad hc r1 (by omega)), Or.inr ⟨e0, z⟩⟩
/-- how the methods that read tell of it: with a fault ahead of it nothing is read -/
def PFv (V : List Int → Prop) (B : Nat → Int) (N : Int) (m : Nat) (s t : PS) : Prop := (iI s 79 ≠ 0 ∧ iI t 79 = iI s 79) ∨ (iI s 79 = 0 ∧ OUv V B N m (sk B N (iI s 77)) (iI s 78) t)
theorem pf_fav {V : List Int → Prop} {B : Nat → Int} {N : Int} {m : Nat} {s t : PS} (h : PFv V B N m s t) (hf : iI s 79 ≠ 0) : iI t 79 = iI s 79 := by
  rcases h with h | h
  · exact h.2
  · exact absurd h.1 hf
theorem pf_ouv {V : List Int → Prop} {B : Nat → Int} {N : Int} {m : Nat} {s t : PS} (h : PFv V B N m s t) (hf : iI s 79 = 0) : OUv V B N m (sk B N (iI s 77)) (iI s 78) t := by
  rcases h with h | h
  · exact absurd hf h.1
  · exact h.2
theorem ou_parFv {V : List Int → Prop} {B : Nat → Int} {N p o : Int} {a b c : PS} (h : chT B N p 40) (o6 : o ≤ 6) (ho : (o = 6 ∧ iI a 79 = 3) ∨ (o ≠ 6 ∧ iI a 79 = 0)) (hA : iI a 77 = p + 1) (hP : iI a 78 = o + 1) (h1 : PFv V B N 3 a b) (h2 : SGN B N 41 b c) : OUv V B N 0 p o c := by
  rcases ho with ⟨q, f⟩ | ⟨q, f⟩
  · have f1 := pf_fav h1 (by omega)
    exact ou_nov (pu_p3 h (by omega)) (by decide) (by rw [sg_fa h2 (by omega)]; omega)
  · have h3 := pf_ouv h1 f
    rw [hA, hP] at h3
    exact ou_parv h (by omega) h3 h2
theorem ou_twoFv {V V1 V2 : List Int → Prop} {B : Nat → Int} {N p o : Int} {a b c d e : PS} (hd : ¬ dgP B N p) (hc : ¬ chT B N p 40) (hw : whV B N p = 6476969 ∨ whV B N p = 267347) (h : chT B N (sk B N (wdE B N p)) 40) (o6 : o ≤ 6) (ho : (o = 6 ∧ iI a 79 = 3) ∨ (o ≠ 6 ∧ iI a 79 = 0)) (hA : iI a 77 = sk B N (wdE B N p) + 1) (hP : iI a 78 = o + 1) (h1 : PFv V1 B N 3 a b) (h2 : SGN B N 44 b c) (hPc : iI c 78 = o + 1) (h3 : PFv V2 B N 3 c d) (h4 : SGN B N 41 d e) (hV : ∀ c d, V1 c → V2 d → V (c ++ d ++ [if whV B N p = 6476969 then -13 else -14])) : OUv V B N 0 p o e := by
  rcases ho with ⟨q, f⟩ | ⟨q, f⟩
  · have f1 := pf_fav h1 (by omega)
    have f2 := sg_fa h2 (by omega)
    have f3 := pf_fav h3 (by omega)
    exact ou_nov (pu_t3 hd hc hw h (by omega)) (by decide) (by rw [sg_fa h4 (by omega)]; omega)
  · have g1 := pf_ouv h1 f
    rw [hA, hP] at g1
    refine ou_twov hd hc hw h (by omega) g1 h2 ?_ h4 hV
    rcases h3 with h3 | h3
    · exact Or.inl h3
    · rw [hPc] at h3; exact Or.inr h3
theorem ou_numv {V : List Int → Prop} {B : Nat → Int} {N p o e : Int} {t : PS} (h : dgP B N p) (he : e = nmV B N p 0) (ha : iI t 77 = nmE B N p 0) (hf : (0 ≤ e ∧ e ≤ 999 ∧ iI t 79 = 0) ∨ ((e < 0 ∨ 999 < e) ∧ iI t 79 = 2)) (hV : 0 ≤ e → e ≤ 999 → V [e]) : OUv V B N 0 p o t := by
  have n0 := nmV_nn (B := B) (N := N) (p := p)
  rcases hf with ⟨h1, h2, h3⟩ | ⟨h1, h2⟩
  · exact ou_okv (pu_num h (by omega)) h3 (by rw [ha]) (by rw [← he]; exact hV h1 h2)
  · exact ou_nov (pu_big h (by omega)) (by decide) h2
theorem ou_namv {V : List Int → Prop} {B : Nat → Int} {N p o : Int} {t : PS} (h : nmC B N p ≠ 0) (ha : iI t 77 = wdE B N p) (hf : iI t 79 = 0) (hV : V [nmC B N p]) : OUv V B N 0 p o t := by
  have h1 := nm_wh h
  have h2 := wh_let h1.1
  exact ou_okv (pu_nam (by omega) (by omega) (by omega) h) hf (by rw [ha]) hV
theorem ou_nopv {V : List Int → Prop} {B : Nat → Int} {N p o : Int} {t : PS} (hd : ¬ dgP B N p) (hc : ¬ chT B N p 40) (hw : ¬ (whV B N p = 6476969 ∨ whV B N p = 267347)) (h : nmC B N p = 0) (hf : iI t 79 = 1) : OUv V B N 0 p o t := ou_nov (pu_no hd hc hw h) (by decide) hf
theorem ou_nop2v {V : List Int → Prop} {B : Nat → Int} {N p o : Int} {t : PS} (hw : whV B N p = 6476969 ∨ whV B N p = 267347) (h : ¬ chT B N (sk B N (wdE B N p)) 40) (hf : iI t 79 = 1) : OUv V B N 0 p o t := by
  have h2 := wh_let (show whV B N p ≠ 0 by omega)
  exact ou_nov (pu_t1 (by omega) (by omega) hw h) (by decide) hf
/-- a loop over a rest: s ahead of the whole, t at the loop's head -/
def PRv (V : List Int → Prop) (B : Nat → Int) (N : Int) (m w : Nat) (s t : PS) : Prop := (iI s 79 ≠ 0 ∧ iI t 79 = iI s 79) ∨ (iI s 79 = 0 ∧ RSv V B N m w (sk B N (iI s 77)) (iI s 78) t)
theorem prm_mvv {V : List Int → Prop} {B : Nat → Int} {N : Int} {m w : Nat} {s t u : PS} (h : PRv V B N m w s t) (ha : sk B N (iI u 77) = sk B N (iI t 77)) (hf : iI u 79 = iI t 79) : PRv V B N m w s u := by
  rcases h with h | h
  · exact Or.inl ⟨h.1, by omega⟩
  · exact Or.inr ⟨h.1, rst_mvv h.2 ha hf⟩
theorem prm_fav {V : List Int → Prop} {B : Nat → Int} {N : Int} {m w : Nat} {s t : PS} (h : PRv V B N m w s t) (hf : iI t 79 ≠ 0) : PFv V B N w s t := by
  rcases h with h | h
  · exact Or.inl h
  · exact Or.inr ⟨h.1, rst_fav h.2 hf⟩
theorem prmp_0v {V : List Int → Prop} {B : Nat → Int} {N : Int} {s t : PS} (h : PFv V B N 0 s t) : PRv V B N 2 1 s t := by
  rcases h with h | h
  · exact Or.inl h
  · exact Or.inr ⟨h.1, rstp_0v h.2⟩
theorem prmp_endv {V : List Int → Prop} {B : Nat → Int} {N : Int} {s t : PS} (h : PRv V B N 2 1 s t) (hf : iI t 79 = 0) (hc : ¬ (chT B N (sk B N (iI t 77)) 42 ∨ chT B N (sk B N (iI t 77)) 47)) : PFv V B N 1 s t := by
  rcases h with h | h
  · exact absurd h.2 (by omega)
  · exact Or.inr ⟨h.1, rstp_endv h.2 hf hc⟩
theorem prmp_upv {V V1 V2 : List Int → Prop} {B : Nat → Int} {N : Int} {s t a u : PS} (h : PRv V B N 2 1 s t) (hf : iI t 79 = 0) (hc : chT B N (sk B N (iI t 77)) 42 ∨ chT B N (sk B N (iI t 77)) 47) (hA : sk B N (iI a 77) = sk B N ((sk B N (iI t 77)) + 1)) (hF : iI a 79 = 0) (hO : iI a 78 = iI s 78) (h1 : PFv V1 B N 0 a u) (hV : ∀ a c, V a → V1 c → V2 (a ++ c ++ [opC B (sk B N (iI t 77))])) : PRv V2 B N 2 1 s u := by
  rcases h with h | h
  · exact absurd h.2 (by omega)
  · have h2 := pf_ouv h1 hF
    rw [hA, hO] at h2
    exact Or.inr ⟨h.1, rstp_upv h.2 hf hc h2 hV⟩
theorem prms_0v {V : List Int → Prop} {B : Nat → Int} {N : Int} {s t : PS} (h : PFv V B N 1 s t) : PRv V B N 4 3 s t := by
  rcases h with h | h
  · exact Or.inl h
  · exact Or.inr ⟨h.1, rsts_0v h.2⟩
theorem prms_endv {V : List Int → Prop} {B : Nat → Int} {N : Int} {s t : PS} (h : PRv V B N 4 3 s t) (hf : iI t 79 = 0) (hc : ¬ (chT B N (sk B N (iI t 77)) 43 ∨ chT B N (sk B N (iI t 77)) 45)) : PFv V B N 3 s t := by
  rcases h with h | h
  · exact absurd h.2 (by omega)
  · exact Or.inr ⟨h.1, rsts_endv h.2 hf hc⟩
theorem prms_upv {V V1 V2 : List Int → Prop} {B : Nat → Int} {N : Int} {s t a u : PS} (h : PRv V B N 4 3 s t) (hf : iI t 79 = 0) (hc : chT B N (sk B N (iI t 77)) 43 ∨ chT B N (sk B N (iI t 77)) 45) (hA : sk B N (iI a 77) = sk B N ((sk B N (iI t 77)) + 1)) (hF : iI a 79 = 0) (hO : iI a 78 = iI s 78) (h1 : PFv V1 B N 1 a u) (hV : ∀ a c, V a → V1 c → V2 (a ++ c ++ [opC B (sk B N (iI t 77))])) : PRv V2 B N 4 3 s u := by
  rcases h with h | h
  · exact absurd h.2 (by omega)
  · have h2 := pf_ouv h1 hF
    rw [hA, hO] at h2
    exact Or.inr ⟨h.1, rsts_upv h.2 hf hc h2 hV⟩
section ZV
variable {k : kx_T} {mn pc : Nat} {dT : Nat → ClassId} {lv : List (Nat × Value)} {st : List Value} {ws : va_W} {ce sl a b : Nat} {z : Int}
theorem z_anyV {x : Int32} (g : ∀ e, rng e → Int32.ofInt e = x → WS k pc lv (.int (Int32.ofInt e) :: st) ws ce sl) : WS k pc lv (.int x :: st) ws ce sl := by
  have h := g x.toInt (rng_to x) (ofi_to x)
  rw [ofi_to] at h; exact h
theorem z_divE (X : AX k mn dT) {x y : Int} (h : cdA mn pc = some (.idiv, 1, a, b, z)) (hy : y ≠ 0) (hr : rng y) (g : ∀ e : Int, rng e → Int32.ofInt e = Int32.ofInt x / Int32.ofInt y → WS k (pc + 1) lv (.int (Int32.ofInt e) :: st) ws ce sl) : WS k pc lv (.int (Int32.ofInt y) :: .int (Int32.ofInt x) :: st) ws ce sl :=
  w_idiv X.1 (ax_d X h) (fun q => by
    have := congrArg Int32.toInt q
    rw [zi hr] at this
    have e0 : (0 : Int32).toInt = 0 := rfl
    omega) (z_anyV g)
end ZV
/-! joined, on whole numbers -/
theorem jn_add {a b e : Int} (h : Int32.ofInt e = Int32.ofInt (a + b)) : Int32.ofInt e = jnV (-9) (Int32.ofInt a) (Int32.ofInt b) := by rw [h, Int32.ofInt_add]; rfl
theorem jn_sub {a b e : Int} (h : Int32.ofInt e = Int32.ofInt (a - b)) : Int32.ofInt e = jnV (-10) (Int32.ofInt a) (Int32.ofInt b) := by rw [h, Int32.ofInt_sub]; rfl
theorem jn_mul {a b e : Int} (h : Int32.ofInt e = Int32.ofInt (a * b)) : Int32.ofInt e = jnV (-11) (Int32.ofInt a) (Int32.ofInt b) := by rw [h, Int32.ofInt_mul]; rfl
theorem zi_0i {b : Int} (r : rng b) : Int32.ofInt b = 0 ↔ b = 0 := by rw [zi_0]; exact zi_eq r rng_0
theorem jn_div {a b e : Int} (r : rng b) (h : (b = 0 ∧ e = 0) ∨ (b ≠ 0 ∧ Int32.ofInt e = Int32.ofInt a / Int32.ofInt b)) : Int32.ofInt e = jnV (-12) (Int32.ofInt a) (Int32.ofInt b) := by
  show _ = if Int32.ofInt b = 0 then 0 else Int32.ofInt a / Int32.ofInt b
  rcases h with ⟨h1, h2⟩ | ⟨h1, h2⟩
  · rw [if_pos ((zi_0i r).mpr h1), h2]; rfl
  · rw [if_neg (fun q => h1 ((zi_0i r).mp q))]; exact h2
theorem jn_lst {a b e : Int} (ra : rng a) (rb : rng b) (h : (a < b ∧ e = a) ∨ (b ≤ a ∧ e = b)) : Int32.ofInt e = jnV (-13) (Int32.ofInt a) (Int32.ofInt b) := by
  show _ = if Int32.ofInt a < Int32.ofInt b then Int32.ofInt a else Int32.ofInt b
  rcases h with ⟨h1, h2⟩ | ⟨h1, h2⟩
  · rw [if_pos ((zi_lt ra rb).mpr h1), h2]
  · rw [if_neg (fun q => by have := (zi_lt ra rb).mp q; omega), h2]
theorem jn_mst {a b e : Int} (ra : rng a) (rb : rng b) (h : (b < a ∧ e = a) ∨ (a ≤ b ∧ e = b)) : Int32.ofInt e = jnV (-14) (Int32.ofInt a) (Int32.ofInt b) := by
  show _ = if Int32.ofInt b < Int32.ofInt a then Int32.ofInt a else Int32.ofInt b
  rcases h with ⟨h1, h2⟩ | ⟨h1, h2⟩
  · rw [if_pos ((zi_lt rb ra).mpr h1), h2]
  · rw [if_neg (fun q => by have := (zi_lt rb ra).mp q; omega), h2]
theorem jn_blw {a b e : Int} (ra : rng a) (rb : rng b) (h : (a < b ∧ e = 1) ∨ (b ≤ a ∧ e = 0)) : Int32.ofInt e = jnV (-15) (Int32.ofInt a) (Int32.ofInt b) := by
  show _ = if Int32.ofInt a < Int32.ofInt b then 1 else 0
  rcases h with ⟨h1, h2⟩ | ⟨h1, h2⟩
  · rw [if_pos ((zi_lt ra rb).mpr h1), h2]; rfl
  · rw [if_neg (fun q => by have := (zi_lt ra rb).mp q; omega), h2]; rfl
theorem jn_abv {a b e : Int} (ra : rng a) (rb : rng b) (h : (b < a ∧ e = 1) ∨ (a ≤ b ∧ e = 0)) : Int32.ofInt e = jnV (-16) (Int32.ofInt a) (Int32.ofInt b) := by
  show _ = if Int32.ofInt b < Int32.ofInt a then 1 else 0
  rcases h with ⟨h1, h2⟩ | ⟨h1, h2⟩
  · rw [if_pos ((zi_lt rb ra).mpr h1), h2]; rfl
  · rw [if_neg (fun q => by have := (zi_lt rb ra).mp q; omega), h2]; rfl
theorem jn_sam {a b e : Int} (ra : rng a) (rb : rng b) (h : (a = b ∧ e = 1) ∨ (a ≠ b ∧ e = 0)) : Int32.ofInt e = jnV (-17) (Int32.ofInt a) (Int32.ofInt b) := by
  show _ = if Int32.ofInt a = Int32.ofInt b then 1 else 0
  rcases h with ⟨h1, h2⟩ | ⟨h1, h2⟩
  · rw [if_pos ((zi_eq ra rb).mpr h1), h2]; rfl
  · rw [if_neg (fun q => h1 ((zi_eq ra rb).mp q)), h2]; rfl
theorem jn_not {a e : Int} (h : Int32.ofInt e = Int32.ofInt (1 - a)) : Int32.ofInt e = 1 - Int32.ofInt a := by rw [h, Int32.ofInt_sub]; rfl
/-! The class's stack, as a list: the top first -/
def skL (t : PS) : Nat → List Int32
  | 0 => []
  | n + 1 => Int32.ofInt (iC t 20 n) :: skL t n
theorem skl_put {t : PS} {i : Nat} {x : Int32} : ∀ n : Nat, n ≤ i → skL (uC t 20 i x) n = skL t n
  | 0, _ => rfl
  | n + 1, h => by
    show Int32.ofInt (iC (uC t 20 i x) 20 n) :: skL (uC t 20 i x) n = Int32.ofInt (iC t 20 n) :: skL t n
    rw [skl_put n (by omega), iC_n (by omega)]
def wkF (nm : Nat → Int32) (c : Nat → Int) : Nat → List Int32
  | 0 => []
  | n + 1 => stV nm (wkF nm c n) (c n)
theorem wk_fold {nm : Nat → Int32} {c : Nat → Int} : ∀ n : Nat, ((List.range n).map c).foldl (stV nm) [] = wkF nm c n
  | 0 => rfl
  | n + 1 => by
    rw [List.range_succ, List.map_append, List.foldl_append, wk_fold n]
    rfl
theorem wk_push {nm : Nat → Int32} {f : Nat → Int} {t u : PS} {d v c : Int} {n : Nat} (h : skL t d.toNat = wkF nm f n) (hc : c = f n) (c8 : -8 < c) (hv : (0 ≤ c ∧ v = c) ∨ (c < 0 ∧ Int32.ofInt v = nm (-1 - c).toNat)) (rv : rng v) (d0 : 0 ≤ d) (hu : u = uC t 20 d.toNat (Int32.ofInt v)) : skL u (d + 1).toNat = wkF nm f (n + 1) := by
  rw [show (d + 1).toNat = d.toNat + 1 by omega]
  show Int32.ofInt (iC u 20 d.toNat) :: skL u d.toNat = stV nm (wkF nm f n) (f n)
  rw [← hc, ← h]
  unfold stV
  rw [if_pos c8, hu, iC_u rv, skl_put _ (Nat.le_refl _)]
  rcases hv with ⟨h1, h2⟩ | ⟨h1, h2⟩
  · rw [if_pos h1, h2]
  · rw [if_neg (by omega), h2]
theorem wk_not {nm : Nat → Int32} {f : Nat → Int} {t u : PS} {d v c : Int} {n : Nat} (h : skL t d.toNat = wkF nm f n) (hc : c = f n) (c8 : c = -8) (d0 : 0 < d) (hv : Int32.ofInt v = Int32.ofInt (1 - iC t 20 (d - 1).toNat)) (rv : rng v) (hu : u = uC t 20 (d - 1).toNat (Int32.ofInt v)) : skL u d.toNat = wkF nm f (n + 1) := by
  obtain ⟨m, hm⟩ : ∃ m : Nat, m = (d - 1).toNat := ⟨_, rfl⟩
  rw [← hm] at hv hu
  rw [show d.toNat = m + 1 by omega] at h ⊢
  show Int32.ofInt (iC u 20 m) :: skL u m = stV nm (wkF nm f n) (f n)
  rw [← hc, ← h, c8, hu, iC_u rv, skl_put _ (Nat.le_refl _), jn_not hv]
  rfl
theorem wk_not0 {nm : Nat → Int32} {f : Nat → Int} {t : PS} {d c : Int} {n : Nat} (h : skL t d.toNat = wkF nm f n) (hc : c = f n) (c8 : c = -8) (d0 : d ≤ 0) : skL t d.toNat = wkF nm f (n + 1) := by
  rw [show d.toNat = 0 by omega] at h ⊢
  show [] = stV nm (wkF nm f n) (f n)
  rw [← hc, ← h, c8]
  rfl
theorem wk_two {nm : Nat → Int32} {f : Nat → Int} {t u : PS} {d v c : Int} {n : Nat} (h : skL t d.toNat = wkF nm f n) (hc : c = f n) (c8 : c < -8) (d1 : 1 < d) (hv : Int32.ofInt v = jnV c (Int32.ofInt (iC t 20 (d - 1 - 1).toNat)) (Int32.ofInt (iC t 20 (d - 1).toNat))) (rv : rng v) (hu : u = uC t 20 (d - 1 - 1).toNat (Int32.ofInt v)) : skL u (d - 1).toNat = wkF nm f (n + 1) := by
  obtain ⟨m, hm⟩ : ∃ m : Nat, m = (d - 1 - 1).toNat := ⟨_, rfl⟩
  rw [← hm] at hv hu
  rw [show (d - 1).toNat = m + 1 by omega] at hv ⊢
  rw [show d.toNat = m + 2 by omega] at h
  show Int32.ofInt (iC u 20 m) :: skL u m = stV nm (wkF nm f n) (f n)
  rw [← hc, ← h, hu, iC_u rv, skl_put _ (Nat.le_refl _), hv]
  unfold stV
  rw [if_neg (by omega), if_neg (by omega)]
  rfl
theorem wk_two0 {nm : Nat → Int32} {f : Nat → Int} {t : PS} {d c : Int} {n : Nat} (h : skL t d.toNat = wkF nm f n) (hc : c = f n) (c8 : c < -8) (d1 : d ≤ 1) (d0 : 0 ≤ d) : skL t d.toNat = wkF nm f (n + 1) := by
  rcases (show d = 0 ∨ d = 1 by omega) with e | e
  · subst e
    show [] = stV nm (wkF nm f n) (f n)
    rw [← hc, ← h]
    unfold stV
    rw [if_neg (by omega), if_neg (by omega)]
    rfl
  · subst e
    show [Int32.ofInt (iC t 20 0)] = stV nm (wkF nm f n) (f n)
    rw [← hc, ← h]
    unfold stV
    rw [if_neg (by omega), if_neg (by omega)]
    rfl
theorem wk_end {nm : Nat → Int32} {f : Nat → Int} {t : PS} {d e : Int} {n : Nat} (h : skL t d.toNat = wkF nm f n) (he : e = iC t 20 (0 : Int).toNat) {v : Int32} (hv : VLm nm v ((List.range n).map f)) : Int32.ofInt e = v := by
  have z := hv []
  rw [wk_fold, ← h] at z
  have e1 : d.toNat = 1 := by
    have l := congrArg List.length z
    have ll : ∀ m, (skL t m).length = m := by
      intro m
      induction m with
      | zero => rfl
      | succ m ih => show (skL t m).length + 1 = m + 1; rw [ih]
    rw [ll] at l
    exact l
  rw [e1] at z
  have y : Int32.ofInt (iC t 20 0) = v := (List.cons.inj z).1
  rw [he]; exact y
theorem ld_0 {a b c y1 y2 y3 : Int} (h1 : Int32.ofInt y1 = Int32.ofInt (2 * b)) (h2 : Int32.ofInt y2 = Int32.ofInt (a + y1)) (h3 : Int32.ofInt y3 = Int32.ofInt (y2 + c)) : Int32.ofInt y3 = Int32.ofInt (a + 2 * b + c) := by
  rw [h3, Int32.ofInt_add, h2, Int32.ofInt_add, h1, ← Int32.ofInt_add, ← Int32.ofInt_add]
/-- where a clause's codes begin -/
def bgV (s : PS) (x : Int) : Int := if 0 < x then iC s 17 (x - 1).toNat else 0
theorem bg_1 {s : PS} {x e : Int} (h : 0 < x) (he : e = iC s 17 (x - 1).toNat) : e = bgV s x := he.trans (if_pos h).symm
theorem bg_0 {s : PS} {x : Int} (h : x ≤ 0) : 0 = bgV s x := (if_neg (by omega)).symm
/-- a clause's codes -/
def cdL (s : PS) (x : Int) : List Int := (List.range (iC s 17 x.toNat - bgV s x).toNat).map (fun j => iC s 16 ((bgV s x).toNat + j))
section M87r
variable {l : Launch} {s0 : State} {D : va_G} {tys : List (ClassId × FieldType)} {a0 : Array Value} {A : Nat → Nat} {dT : Nat → ClassId} {s : PS}
set_option maxRecDepth 4000 in
theorem c7_joined3 (G : GX l s0 D tys a0 dT) (I : Bd s) {x y z : Int} (p0 : rng x ∧ x ≤ -9) (p1 : rng y) (p2 : rng z) : CT l s0 D A dT 85 (rmN 85) [.int (Int32.ofInt x), .int (Int32.ofInt y), .int (Int32.ofInt z)] s (fun o t => s = t ∧ ∃ e, o = .inl (some (.int (Int32.ofInt e))) ∧ rng e ∧ (rng e ∧ Int32.ofInt e = jnV x (Int32.ofInt y) (Int32.ofInt z))) := by
  refine ct_ofX G (by decide) (Nat.le_of_ble_eq_true rfl) (fun k X E ET hRt hXt q => ?_)
  show WS k 0 [(0, .int (Int32.ofInt x)), (1, .int (Int32.ofInt y)), (2, .int (Int32.ofInt z))] [] _ 0 0
  have F : Fm [] [] s s := fm_rf _ _ s
  refine z_load_n X (x := x) rfl (List.Mem.head _) ?_
  rcases (show x = (-18) ∨ x = (-17) ∨ x = (-16) ∨ x = (-15) ∨ x = (-14) ∨ x = (-13) ∨ x = (-12) ∨ x = (-11) ∨ x = (-10) ∨ x = (-9) ∨ (x < (-18) ∨ (-9) < x) by omega) with gs | gs | gs | gs | gs | gs | gs | gs | gs | gs | gs
  ·
    rw [gs]
    refine w_tabIn X.1 (dflt := 138) (lo := (-18)) (hi := (-9)) (offs := #[134, 123, 112, 101, 90, 79, 67, 63, 59, 55]) (len := 55) (off := 134) (t := 135) (ax_d X (show cdA 85 1 = some (.tableswitch 138 (-18) (-9) #[134, 123, 112, 101, 90, 79, 67, 63, 59, 55], 55, 0, 0, 0) from rfl)) (by decide) (by decide) (by decide) (by decide) (z_load_n X (x := y) rfl (List.Mem.tail _ (List.Mem.head _)) (z_load_n X (x := z) rfl (List.Mem.tail _ (List.Mem.tail _ (List.Mem.head _))) (w_iand X.1 (ax_d X (show cdA 85 137 = some (.iand, 1, 0, 0, 0) from rfl)) (z_anyV (fun y1 hy1 ey1 => ?_)))))
    exact w_iret X.1 q hRt rfl (ax_d X (show cdA 85 138 = some (.ireturn, 1, 0, 0, 0) from rfl)) (Nat.zero_le _) (Nat.zero_le _) ⟨_, rfl, rfl, y1, rfl, hy1, ⟨hy1, by rw [show x = -18 by omega]; exact ey1⟩⟩
  ·
    rw [gs]
    refine w_tabIn X.1 (dflt := 138) (lo := (-18)) (hi := (-9)) (offs := #[134, 123, 112, 101, 90, 79, 67, 63, 59, 55]) (len := 55) (off := 123) (t := 124) (ax_d X (show cdA 85 1 = some (.tableswitch 138 (-18) (-9) #[134, 123, 112, 101, 90, 79, 67, 63, 59, 55], 55, 0, 0, 0) from rfl)) (by decide) (by decide) (by decide) (by decide) (z_load_n X (x := y) rfl (List.Mem.tail _ (List.Mem.head _)) (z_load_n X (x := z) rfl (List.Mem.tail _ (List.Mem.tail _ (List.Mem.head _))) (z_icmp_ne X (t := 133) rfl rfl ⟨by first | exact p1.1 | omega, by first | exact p1.2 | omega⟩ ⟨by first | exact p2.1 | omega, by first | exact p2.2 | omega⟩ (fun g2 => ?_) (fun g2 => ?_))))
    ·
      refine z_const X rfl ?_
      exact w_iret X.1 q hRt rfl (ax_d X (show cdA 85 134 = some (.ireturn, 1, 0, 0, 0) from rfl)) (Nat.zero_le _) (Nat.zero_le _) ⟨_, rfl, rfl, 0, rfl, (by decide), ⟨(by decide), by rw [show x = -17 by first | (clear g2; omega) | omega]; exact jn_sam p1 p2 (by first | (clear g2; omega) | omega)⟩⟩
    ·
      refine z_const X rfl (z_goto X (t := 134) rfl rfl ?_)
      exact w_iret X.1 q hRt rfl (ax_d X (show cdA 85 134 = some (.ireturn, 1, 0, 0, 0) from rfl)) (Nat.zero_le _) (Nat.zero_le _) ⟨_, rfl, rfl, 1, rfl, (by decide), ⟨(by decide), by rw [show x = -17 by omega]; exact jn_sam p1 p2 (by omega)⟩⟩
  ·
    rw [gs]
    refine w_tabIn X.1 (dflt := 138) (lo := (-18)) (hi := (-9)) (offs := #[134, 123, 112, 101, 90, 79, 67, 63, 59, 55]) (len := 55) (off := 112) (t := 113) (ax_d X (show cdA 85 1 = some (.tableswitch 138 (-18) (-9) #[134, 123, 112, 101, 90, 79, 67, 63, 59, 55], 55, 0, 0, 0) from rfl)) (by decide) (by decide) (by decide) (by decide) (z_load_n X (x := y) rfl (List.Mem.tail _ (List.Mem.head _)) (z_load_n X (x := z) rfl (List.Mem.tail _ (List.Mem.tail _ (List.Mem.head _))) (z_icmp_le X (t := 122) rfl rfl ⟨by first | exact p1.1 | omega, by first | exact p1.2 | omega⟩ ⟨by first | exact p2.1 | omega, by first | exact p2.2 | omega⟩ (fun g3 => ?_) (fun g3 => ?_))))
    ·
      refine z_const X rfl ?_
      exact w_iret X.1 q hRt rfl (ax_d X (show cdA 85 123 = some (.ireturn, 1, 0, 0, 0) from rfl)) (Nat.zero_le _) (Nat.zero_le _) ⟨_, rfl, rfl, 0, rfl, (by decide), ⟨(by decide), by rw [show x = -16 by omega]; exact jn_abv p1 p2 (by omega)⟩⟩
    ·
      refine z_const X rfl (z_goto X (t := 123) rfl rfl ?_)
      exact w_iret X.1 q hRt rfl (ax_d X (show cdA 85 123 = some (.ireturn, 1, 0, 0, 0) from rfl)) (Nat.zero_le _) (Nat.zero_le _) ⟨_, rfl, rfl, 1, rfl, (by decide), ⟨(by decide), by rw [show x = -16 by omega]; exact jn_abv p1 p2 (by omega)⟩⟩
  ·
    rw [gs]
    refine w_tabIn X.1 (dflt := 138) (lo := (-18)) (hi := (-9)) (offs := #[134, 123, 112, 101, 90, 79, 67, 63, 59, 55]) (len := 55) (off := 101) (t := 102) (ax_d X (show cdA 85 1 = some (.tableswitch 138 (-18) (-9) #[134, 123, 112, 101, 90, 79, 67, 63, 59, 55], 55, 0, 0, 0) from rfl)) (by decide) (by decide) (by decide) (by decide) (z_load_n X (x := y) rfl (List.Mem.tail _ (List.Mem.head _)) (z_load_n X (x := z) rfl (List.Mem.tail _ (List.Mem.tail _ (List.Mem.head _))) (z_icmp_ge X (t := 111) rfl rfl ⟨by first | exact p1.1 | omega, by first | exact p1.2 | omega⟩ ⟨by first | exact p2.1 | omega, by first | exact p2.2 | omega⟩ (fun g4 => ?_) (fun g4 => ?_))))
    ·
      refine z_const X rfl ?_
      exact w_iret X.1 q hRt rfl (ax_d X (show cdA 85 112 = some (.ireturn, 1, 0, 0, 0) from rfl)) (Nat.zero_le _) (Nat.zero_le _) ⟨_, rfl, rfl, 0, rfl, (by decide), ⟨(by decide), by rw [show x = -15 by omega]; exact jn_blw p1 p2 (by omega)⟩⟩
    ·
      refine z_const X rfl (z_goto X (t := 112) rfl rfl ?_)
      exact w_iret X.1 q hRt rfl (ax_d X (show cdA 85 112 = some (.ireturn, 1, 0, 0, 0) from rfl)) (Nat.zero_le _) (Nat.zero_le _) ⟨_, rfl, rfl, 1, rfl, (by decide), ⟨(by decide), by rw [show x = -15 by omega]; exact jn_blw p1 p2 (by omega)⟩⟩
  ·
    rw [gs]
    refine w_tabIn X.1 (dflt := 138) (lo := (-18)) (hi := (-9)) (offs := #[134, 123, 112, 101, 90, 79, 67, 63, 59, 55]) (len := 55) (off := 90) (t := 91) (ax_d X (show cdA 85 1 = some (.tableswitch 138 (-18) (-9) #[134, 123, 112, 101, 90, 79, 67, 63, 59, 55], 55, 0, 0, 0) from rfl)) (by decide) (by decide) (by decide) (by decide) (z_load_n X (x := y) rfl (List.Mem.tail _ (List.Mem.head _)) (z_load_n X (x := z) rfl (List.Mem.tail _ (List.Mem.tail _ (List.Mem.head _))) (z_icmp_le X (t := 100) rfl rfl ⟨by first | exact p1.1 | omega, by first | exact p1.2 | omega⟩ ⟨by first | exact p2.1 | omega, by first | exact p2.2 | omega⟩ (fun g5 => ?_) (fun g5 => ?_))))
    ·
      refine z_load_n X (x := z) rfl (List.Mem.tail _ (List.Mem.tail _ (List.Mem.head _))) ?_
      exact w_iret X.1 q hRt rfl (ax_d X (show cdA 85 101 = some (.ireturn, 1, 0, 0, 0) from rfl)) (Nat.zero_le _) (Nat.zero_le _) ⟨_, rfl, rfl, z, rfl, ⟨by first | exact p2.1 | omega, by first | exact p2.2 | omega⟩, ⟨⟨by first | exact p2.1 | omega, by first | exact p2.2 | omega⟩, by rw [show x = -14 by omega]; exact jn_mst p1 p2 (by omega)⟩⟩
    ·
      refine z_load_n X (x := y) rfl (List.Mem.tail _ (List.Mem.head _)) (z_goto X (t := 101) rfl rfl ?_)
      exact w_iret X.1 q hRt rfl (ax_d X (show cdA 85 101 = some (.ireturn, 1, 0, 0, 0) from rfl)) (Nat.zero_le _) (Nat.zero_le _) ⟨_, rfl, rfl, y, rfl, ⟨by first | exact p1.1 | omega, by first | exact p1.2 | omega⟩, ⟨⟨by first | exact p1.1 | omega, by first | exact p1.2 | omega⟩, by rw [show x = -14 by omega]; exact jn_mst p1 p2 (by omega)⟩⟩
  ·
    rw [gs]
    refine w_tabIn X.1 (dflt := 138) (lo := (-18)) (hi := (-9)) (offs := #[134, 123, 112, 101, 90, 79, 67, 63, 59, 55]) (len := 55) (off := 79) (t := 80) (ax_d X (show cdA 85 1 = some (.tableswitch 138 (-18) (-9) #[134, 123, 112, 101, 90, 79, 67, 63, 59, 55], 55, 0, 0, 0) from rfl)) (by decide) (by decide) (by decide) (by decide) (z_load_n X (x := y) rfl (List.Mem.tail _ (List.Mem.head _)) (z_load_n X (x := z) rfl (List.Mem.tail _ (List.Mem.tail _ (List.Mem.head _))) (z_icmp_ge X (t := 89) rfl rfl ⟨by first | exact p1.1 | omega, by first | exact p1.2 | omega⟩ ⟨by first | exact p2.1 | omega, by first | exact p2.2 | omega⟩ (fun g6 => ?_) (fun g6 => ?_))))
    ·
      refine z_load_n X (x := z) rfl (List.Mem.tail _ (List.Mem.tail _ (List.Mem.head _))) ?_
      exact w_iret X.1 q hRt rfl (ax_d X (show cdA 85 90 = some (.ireturn, 1, 0, 0, 0) from rfl)) (Nat.zero_le _) (Nat.zero_le _) ⟨_, rfl, rfl, z, rfl, ⟨by first | exact p2.1 | omega, by first | exact p2.2 | omega⟩, ⟨⟨by first | exact p2.1 | omega, by first | exact p2.2 | omega⟩, by rw [show x = -13 by omega]; exact jn_lst p1 p2 (by omega)⟩⟩
    ·
      refine z_load_n X (x := y) rfl (List.Mem.tail _ (List.Mem.head _)) (z_goto X (t := 90) rfl rfl ?_)
      exact w_iret X.1 q hRt rfl (ax_d X (show cdA 85 90 = some (.ireturn, 1, 0, 0, 0) from rfl)) (Nat.zero_le _) (Nat.zero_le _) ⟨_, rfl, rfl, y, rfl, ⟨by first | exact p1.1 | omega, by first | exact p1.2 | omega⟩, ⟨⟨by first | exact p1.1 | omega, by first | exact p1.2 | omega⟩, by rw [show x = -13 by omega]; exact jn_lst p1 p2 (by omega)⟩⟩
  ·
    rw [gs]
    refine w_tabIn X.1 (dflt := 138) (lo := (-18)) (hi := (-9)) (offs := #[134, 123, 112, 101, 90, 79, 67, 63, 59, 55]) (len := 55) (off := 67) (t := 68) (ax_d X (show cdA 85 1 = some (.tableswitch 138 (-18) (-9) #[134, 123, 112, 101, 90, 79, 67, 63, 59, 55], 55, 0, 0, 0) from rfl)) (by decide) (by decide) (by decide) (by decide) (z_load_n X (x := z) rfl (List.Mem.tail _ (List.Mem.tail _ (List.Mem.head _))) (z_if_ne X (t := 76) rfl rfl ⟨by first | exact p2.1 | omega, by first | exact p2.2 | omega⟩ (fun g7 => ?_) (fun g7 => ?_)))
    ·
      refine z_load_n X (x := y) rfl (List.Mem.tail _ (List.Mem.head _)) (z_load_n X (x := z) rfl (List.Mem.tail _ (List.Mem.tail _ (List.Mem.head _))) (z_divE X rfl (by first | (clear g7; omega) | omega) ⟨by first | (clear g7; omega) | omega, by first | (clear g7; omega) | omega⟩ (fun y8 hy8 ey8 => ?_)))
      exact w_iret X.1 q hRt rfl (ax_d X (show cdA 85 79 = some (.ireturn, 1, 0, 0, 0) from rfl)) (Nat.zero_le _) (Nat.zero_le _) ⟨_, rfl, rfl, y8, rfl, hy8, ⟨hy8, by rw [show x = -12 by first | (clear g7; omega) | omega]; exact jn_div p2 (Or.inr ⟨by first | (clear g7; omega) | omega, ey8⟩)⟩⟩
    ·
      refine z_const X rfl (z_goto X (t := 79) rfl rfl ?_)
      exact w_iret X.1 q hRt rfl (ax_d X (show cdA 85 79 = some (.ireturn, 1, 0, 0, 0) from rfl)) (Nat.zero_le _) (Nat.zero_le _) ⟨_, rfl, rfl, 0, rfl, (by decide), ⟨(by decide), by rw [show x = -12 by omega]; exact jn_div p2 (Or.inl ⟨by omega, rfl⟩)⟩⟩
  ·
    rw [gs]
    refine w_tabIn X.1 (dflt := 138) (lo := (-18)) (hi := (-9)) (offs := #[134, 123, 112, 101, 90, 79, 67, 63, 59, 55]) (len := 55) (off := 63) (t := 64) (ax_d X (show cdA 85 1 = some (.tableswitch 138 (-18) (-9) #[134, 123, 112, 101, 90, 79, 67, 63, 59, 55], 55, 0, 0, 0) from rfl)) (by decide) (by decide) (by decide) (by decide) (z_load_n X (x := y) rfl (List.Mem.tail _ (List.Mem.head _)) (z_load_n X (x := z) rfl (List.Mem.tail _ (List.Mem.tail _ (List.Mem.head _))) (z_mul X rfl (z_anyV (fun y9 hy9 ey9 => ?_)))))
    exact w_iret X.1 q hRt rfl (ax_d X (show cdA 85 67 = some (.ireturn, 1, 0, 0, 0) from rfl)) (Nat.zero_le _) (Nat.zero_le _) ⟨_, rfl, rfl, y9, rfl, hy9, ⟨hy9, by rw [show x = -11 by omega]; exact jn_mul ey9⟩⟩
  ·
    rw [gs]
    refine w_tabIn X.1 (dflt := 138) (lo := (-18)) (hi := (-9)) (offs := #[134, 123, 112, 101, 90, 79, 67, 63, 59, 55]) (len := 55) (off := 59) (t := 60) (ax_d X (show cdA 85 1 = some (.tableswitch 138 (-18) (-9) #[134, 123, 112, 101, 90, 79, 67, 63, 59, 55], 55, 0, 0, 0) from rfl)) (by decide) (by decide) (by decide) (by decide) (z_load_n X (x := y) rfl (List.Mem.tail _ (List.Mem.head _)) (z_load_n X (x := z) rfl (List.Mem.tail _ (List.Mem.tail _ (List.Mem.head _))) (z_sub X rfl (z_anyV (fun y10 hy10 ey10 => ?_)))))
    exact w_iret X.1 q hRt rfl (ax_d X (show cdA 85 63 = some (.ireturn, 1, 0, 0, 0) from rfl)) (Nat.zero_le _) (Nat.zero_le _) ⟨_, rfl, rfl, y10, rfl, hy10, ⟨hy10, by rw [show x = -10 by omega]; exact jn_sub ey10⟩⟩
  ·
    rw [gs]
    refine w_tabIn X.1 (dflt := 138) (lo := (-18)) (hi := (-9)) (offs := #[134, 123, 112, 101, 90, 79, 67, 63, 59, 55]) (len := 55) (off := 55) (t := 56) (ax_d X (show cdA 85 1 = some (.tableswitch 138 (-18) (-9) #[134, 123, 112, 101, 90, 79, 67, 63, 59, 55], 55, 0, 0, 0) from rfl)) (by decide) (by decide) (by decide) (by decide) (z_load_n X (x := y) rfl (List.Mem.tail _ (List.Mem.head _)) (z_load_n X (x := z) rfl (List.Mem.tail _ (List.Mem.tail _ (List.Mem.head _))) (z_add X rfl (z_anyV (fun y11 hy11 ey11 => ?_)))))
    exact w_iret X.1 q hRt rfl (ax_d X (show cdA 85 59 = some (.ireturn, 1, 0, 0, 0) from rfl)) (Nat.zero_le _) (Nat.zero_le _) ⟨_, rfl, rfl, y11, rfl, hy11, ⟨hy11, by rw [show x = -9 by omega]; exact jn_add ey11⟩⟩
  ·
    refine w_tabOut X.1 (dflt := 138) (lo := (-18)) (hi := (-9)) (offs := #[134, 123, 112, 101, 90, 79, 67, 63, 59, 55]) (len := 55) (t := 139) (ax_d X (show cdA 85 1 = some (.tableswitch 138 (-18) (-9) #[134, 123, 112, 101, 90, 79, 67, 63, 59, 55], 55, 0, 0, 0) from rfl)) (by rw [zi ⟨by omega, by omega⟩]; omega) (by decide) (z_load_n X (x := y) rfl (List.Mem.tail _ (List.Mem.head _)) (z_load_n X (x := z) rfl (List.Mem.tail _ (List.Mem.tail _ (List.Mem.head _))) (w_ior X.1 (ax_d X (show cdA 85 141 = some (.ior, 1, 0, 0, 0) from rfl)) (z_anyV (fun y12 hy12 ey12 => ?_)))))
    exact w_iret X.1 q hRt rfl (ax_d X (show cdA 85 142 = some (.ireturn, 1, 0, 0, 0) from rfl)) (Nat.zero_le _) (Nat.zero_le _) ⟨_, rfl, rfl, y12, rfl, hy12, ⟨hy12, by rw [jn_oth (by omega)]; exact ey12⟩⟩
set_option maxRecDepth 4000 in
theorem c7_beginOf3 (G : GX l s0 D tys a0 dT) (I : Bd s) {x : Int} (p0 : 0 ≤ x ∧ x ≤ 7) : CT l s0 D A dT 70 (rmN 70) [.ref (A 19), .int (Int32.ofInt x)] s (fun o t => s = t ∧ ∃ e, o = .inl (some (.int (Int32.ofInt e))) ∧ rng e ∧ (e = bgV s x ∧ 0 ≤ e ∧ e ≤ 200)) := by
  refine ct_ofX G (by decide) (Nat.le_of_ble_eq_true rfl) (fun k X E ET hRt hXt q => ?_)
  show WS k 0 [(0, .ref (A 19)), (1, .int (Int32.ofInt x))] [] _ 0 0
  have F : Fm [] [] s s := fm_rf _ _ s
  refine z_load_n X (x := x) rfl (List.Mem.tail _ (List.Mem.head _)) (z_if_le X (t := 15) rfl rfl ⟨by first | exact oq_fa4e5087 p0.1 | omega, by first | exact oq_0e78ca7d p0.2 | omega⟩ (fun g1 => ?_) (fun g1 => ?_))
  ·
    refine z_const X rfl ?_
    exact w_iret X.1 q hRt rfl (ax_d X (show cdA 70 16 = some (.ireturn, 1, 0, 0, 0) from rfl)) (Nat.zero_le _) (Nat.zero_le _) ⟨_, rfl, rfl, 0, rfl, (by decide), ⟨bg_0 (by omega), by decide, by decide⟩⟩
  ·
    refine z_aload_n X (x := A 19) rfl (List.Mem.head _) (s_getR X 19 rfl (c518_ok rfl) rfl rfl (z_load_n X (x := x) rfl (List.Mem.tail _ (List.Mem.head _)) (z_const X rfl (z_sub X rfl (z_ald X 21 rfl (c518_ok rfl) rfl (by first | exact oq_a4f22177 g1 | omega) (show (x - 1) < 8 by first | exact oq_4a37b086 p0.2 | omega) (cbig_ok rfl) ?_)))))
    have b2 := bc_17 I (show ((x - 1)).toNat < 8 by first | exact oq_b631dd75 p0.2 | omega)
    refine z_goto X (t := 16) rfl rfl ?_
    exact w_iret X.1 q hRt rfl (ax_d X (show cdA 70 16 = some (.ireturn, 1, 0, 0, 0) from rfl)) (Nat.zero_le _) (Nat.zero_le _) ⟨_, rfl, rfl, (iC s 17 ((x - 1)).toNat), rfl, (rng_to _), ⟨bg_1 (by omega) rfl, by first | exact b2.1 | omega, by first | exact b2.2 | omega⟩⟩
set_option maxRecDepth 4000 in
theorem c7_work3 (G : GX l s0 D tys a0 dT) (I : Bd s) {x : Int} (p0 : -1 ≤ x ∧ x ≤ 7) : CT l s0 D A dT 84 (rmN 84) [.ref (A 19), .int (Int32.ofInt x), .ref (A 39)] s (fun o t => Bd t ∧ Fm [] [20] s t ∧ ∃ e, o = .inl (some (.int (Int32.ofInt e))) ∧ rng e ∧ ((x = -1 → Int32.ofInt e = Int32.ofInt (iC s 33 0 + 2 * iC s 33 1 + iC s 33 2)) ∧ (x ≠ -1 → ∀ w : Int32, VLm (fun j => Int32.ofInt (iC s 33 j)) w (cdL s x) → Int32.ofInt e = w))) := by
  refine ct_ofX G (by decide) (Nat.le_of_ble_eq_true rfl) (fun k X E ET hRt hXt q => ?_)
  show WS k 0 [(0, .ref (A 19)), (1, .int (Int32.ofInt x)), (2, .ref (A 39))] [] _ 0 0
  have F : Fm [] [20] s s := fm_rf _ _ s
  have L28 : ∀ (n : Nat) (t : PS) (xv dp c : Int), Bd t → Fm [] [20] s t → (skL t (dp).toNat = wkF (fun j => Int32.ofInt (iC s 33 j)) (fun j => iC s 16 ((bgV s x).toNat + j)) (c - bgV s x).toNat) → ((xv = x ∧ 0 ≤ xv ∧ xv ≤ 7) ∧ (0 ≤ dp ∧ dp ≤ c - bgV s x) ∧ (0 ≤ bgV s x ∧ bgV s x ≤ c ∧ c ≤ 200) ∧ (c = bgV s x ∨ c ≤ iC s 17 (xv : Int).toNat)) → (200 - c : Int).toNat < n → (∀ (t' : PS) (dp' c' : Int), Bd t' → Fm [] [20] s t' → (skL t' (dp').toNat = wkF (fun j => Int32.ofInt (iC s 33 j)) (fun j => iC s 16 ((bgV s x).toNat + j)) (c' - bgV s x).toNat) → ((xv = x ∧ 0 ≤ xv ∧ xv ≤ 7) ∧ 0 ≤ dp' ∧ (c' - bgV s x).toNat = (iC s 17 (xv : Int).toNat - bgV s x).toNat) → WS k 163 [(0, .ref (A 19)), (2, .ref (A 39)), (1, .int (Int32.ofInt xv)), (3, .int (Int32.ofInt dp')), (4, .int (Int32.ofInt c'))] [] (Wd A dT t') 0 0) → WS k 28 [(0, .ref (A 19)), (2, .ref (A 39)), (1, .int (Int32.ofInt xv)), (3, .int (Int32.ofInt dp)), (4, .int (Int32.ofInt c))] [] (Wd A dT t) 0 0 := by
    intro n
    induction n with
    | zero =>
      intro t xv dp c I F hq hi hm kx
      exact absurd hm (Nat.not_lt_zero _)
    | succ n ih =>
      intro t xv dp c I F hq hi hm kx
      refine z_load X (x := c) rfl (List.Mem.tail _ (List.Mem.tail _ (List.Mem.tail _ (List.Mem.tail _ (List.Mem.head _))))) (z_aload_n X (x := A 19) rfl (List.Mem.head _) (s_getR X 19 rfl (c518_ok rfl) rfl rfl (z_load_n X (x := xv) rfl (List.Mem.tail _ (List.Mem.tail _ (List.Mem.head _))) (z_ald X 21 rfl (c518_ok rfl) rfl (by first | exact hi.1.2.1 | omega) (show xv < 8 by first | exact oq_aaea290e hi.1.2.2 | omega) (cbig_ok rfl) ?_))))
      have b1001 := bc_17 I (show (xv).toNat < 8 by first | exact oq_c19a3aae hi.1.2.2 | omega)
      have hen0 := (fm_c F (by decide) : iC t 17 (xv : Int).toNat = iC s 17 (xv : Int).toNat)
      refine z_icmp_ge X (t := 163) rfl rfl ⟨by first | exact oq_e001bc0d hi.2.2.1.2.1 hi.2.2.1.1 | omega, by first | exact oq_52af2b96 hi.2.2.1.2.2 | omega⟩ (rng_to _) (fun g1002 => ?_) (fun g1002 => ?_)
      ·
        refine WS_pq [0, 1, 2, 3, 4] (lv' := [(0, .ref (A 19)), (2, .ref (A 39)), (1, .int (Int32.ofInt xv)), (3, .int (Int32.ofInt dp)), (4, .int (Int32.ofInt c))]) rfl ?_
        exact kx _ dp c I F hq (by first | exact ⟨And.intro (hi.1.1) (And.intro (hi.1.2.1) (hi.1.2.2)), hi.2.1.1, by omega⟩ | omega)
      ·
        refine z_aload_n X (x := A 19) rfl (List.Mem.head _) (s_getR X 19 rfl (c518_ok rfl) rfl rfl (z_load X (x := c) rfl (List.Mem.tail _ (List.Mem.tail _ (List.Mem.tail _ (List.Mem.tail _ (List.Mem.head _))))) (z_ald X 20 rfl (c518_ok rfl) rfl (by first | exact oq_12a1f9e1 hi.2.2.1.2.1 hi.2.2.1.1 | omega) (show c < 200 by first | exact oq_6fca3d72 g1002 b1001.2 | omega) (cbig_ok rfl) ?_)))
        have b1003 := bc_16 I (show (c).toNat < 200 by first | exact oq_b70289d5 g1002 b1001.2 | omega)
        refine z_store X (lv' := [(5, .int (Int32.ofInt (iC t 16 (c).toNat))), (0, .ref (A 19)), (2, .ref (A 39)), (1, .int (Int32.ofInt xv)), (3, .int (Int32.ofInt dp)), (4, .int (Int32.ofInt c))]) rfl (by decide) (fun _ h => h) ?_
        have hcd : (iC t 16 (c).toNat) = (fun j => iC s 16 ((bgV s x).toNat + j)) (c - bgV s x).toNat := by show (iC t 16 (c).toNat) = iC s 16 ((bgV s x).toNat + (c - bgV s x).toNat); rw [show (bgV s x).toNat + (c - bgV s x).toNat = (c : Int).toNat by omega]; exact fm_c F (by decide)
        have hen := (fm_c F (by decide) : iC t 17 (xv : Int).toNat = iC s 17 (xv : Int).toNat)
        refine z_load X (x := (iC t 16 (c).toNat)) rfl (List.Mem.head _) (z_bipush X rfl (z_icmp_le X (t := 90) rfl rfl (rng_to _) (by decide) (fun g1004 => ?_) (fun g1004 => ?_)))
        ·
          refine z_load X (x := (iC t 16 (c).toNat)) rfl (List.Mem.head _) (z_bipush X rfl (z_icmp_ne X (t := 122) rfl rfl (rng_to _) (by decide) (fun g1005 => ?_) (fun g1005 => ?_)))
          ·
            refine z_load_n X (x := dp) rfl (List.Mem.tail _ (List.Mem.tail _ (List.Mem.tail _ (List.Mem.tail _ (List.Mem.head _))))) (z_const X rfl (z_icmp_le X (t := 157) rfl rfl ⟨by first | exact oq_fa4e5087 hi.2.1.1 | omega, by first | exact oq_b8da4ef2 hi.2.1.2 hi.2.2.1.1 hi.2.2.1.2.2 | omega⟩ (by decide) (fun g1006 => ?_) (fun g1006 => ?_)))
            ·
              refine z_inc X (x := c) (lv' := [(4, .int (Int32.ofInt (c + 1))), (5, .int (Int32.ofInt (iC t 16 (c).toNat))), (0, .ref (A 19)), (2, .ref (A 39)), (1, .int (Int32.ofInt xv)), (3, .int (Int32.ofInt dp))]) rfl (by decide) (List.Mem.tail _ (List.Mem.tail _ (List.Mem.tail _ (List.Mem.tail _ (List.Mem.tail _ (List.Mem.head _)))))) (fun _ h => h) (z_goto X (t := 28) rfl rfl (WS_pq [2, 3, 4, 5, 0] (lv' := [(0, .ref (A 19)), (2, .ref (A 39)), (1, .int (Int32.ofInt xv)), (3, .int (Int32.ofInt dp)), (4, .int (Int32.ofInt (c + 1)))]) rfl ?_))
              exact ih _ xv dp (c + 1) I F (by show _ = wkF (fun j => Int32.ofInt (iC s 33 j)) (fun j => iC s 16 ((bgV s x).toNat + j)) (c + 1 - bgV s x).toNat; rw [show (c + 1 - bgV s x).toNat = (c - bgV s x).toNat + 1 by first | (clear g1005; omega) | omega]; exact wk_two0 hq hcd (by first | (clear g1005; omega) | omega) (by first | (clear g1005; omega) | omega) (by first | (clear g1005; omega) | omega)) (by first | exact ⟨And.intro (hi.1.1) (And.intro (hi.1.2.1) (hi.1.2.2)), And.intro (hi.2.1.1) (oq_b99f0f32 hi.2.1.2), And.intro (hi.2.2.1.1) (And.intro (oq_03182e9e hi.2.2.1.2.1) (oq_228270fa g1002 b1001.2)), by first | (clear g1005; omega) | omega⟩ | omega) (by first | exact qk_me hm (by decide) (oq_b0a4f3e2 g1002 b1001.2) | omega) kx
            ·
              refine z_inc X (x := dp) (lv' := [(3, .int (Int32.ofInt (dp + (-1)))), (5, .int (Int32.ofInt (iC t 16 (c).toNat))), (0, .ref (A 19)), (2, .ref (A 39)), (1, .int (Int32.ofInt xv)), (4, .int (Int32.ofInt c))]) rfl (by decide) (List.Mem.tail _ (List.Mem.tail _ (List.Mem.tail _ (List.Mem.tail _ (List.Mem.head _))))) (fun _ h => h) (z_aload_n X (x := A 19) rfl (List.Mem.tail _ (List.Mem.tail _ (List.Mem.head _))) (s_getR X 19 rfl (c518_ok rfl) rfl rfl (z_load_n X (x := (dp + (-1))) rfl (List.Mem.head _) (z_const X rfl (z_sub X rfl (z_load X (x := (iC t 16 (c).toNat)) rfl (List.Mem.tail _ (List.Mem.head _)) (z_aload_n X (x := A 19) rfl (List.Mem.tail _ (List.Mem.tail _ (List.Mem.head _))) (s_getR X 19 rfl (c518_ok rfl) rfl rfl (z_load_n X (x := (dp + (-1))) rfl (List.Mem.head _) (z_const X rfl (z_sub X rfl ?_)))))))))))
              refine z_ald X 24 rfl (c518_ok rfl) rfl (by first | exact oq_d588e9be g1006 | omega) (show ((dp + (-1)) - 1) < 200 by first | exact oq_0351bda7 hi.2.1.2 hi.2.2.1.1 hi.2.2.1.2.2 | omega) (cbig_ok rfl) ?_
              have b1007 := bc_20 I (show (((dp + (-1)) - 1)).toNat < 200 by first | exact oq_990e9f78 hi.2.1.2 hi.2.2.1.1 hi.2.2.1.2.2 | omega)
              refine z_aload_n X (x := A 19) rfl (List.Mem.tail _ (List.Mem.tail _ (List.Mem.head _))) (s_getR X 19 rfl (c518_ok rfl) rfl rfl (z_load_n X (x := (dp + (-1))) rfl (List.Mem.head _) (z_ald X 24 rfl (c518_ok rfl) rfl (by first | exact oq_6c14892a g1006 | omega) (show (dp + (-1)) < 200 by first | exact oq_863bf036 hi.2.1.2 hi.2.2.1.1 hi.2.2.1.2.2 | omega) (cbig_ok rfl) ?_)))
              have b1008 := bc_20 I (show ((dp + (-1))).toNat < 200 by first | exact oq_ec3aca88 hi.2.1.2 hi.2.2.1.1 hi.2.2.1.2.2 | omega)
              refine z_callS X (rm := rmN 85) (As := [.int (Int32.ofInt (iC t 16 (c).toNat)), .int (Int32.ofInt (iC t 20 (((dp + (-1)) - 1)).toNat)), .int (Int32.ofInt (iC t 20 ((dp + (-1))).toNat))]) (st := [.int (Int32.ofInt ((dp + (-1)) - 1)), .ref (A 24)]) rfl rfl (by rw [E.1, E.2.1, E.2.2.1]; exact c7_joined3 G I (by first | exact ⟨And.intro (b1003.1) (b1003.2), oq_40dc8303 g1005 g1004⟩ | omega) (by first | exact ⟨b1007.1, b1007.2⟩ | omega) (by first | exact ⟨b1008.1, b1008.2⟩ | omega)) ⟨by rw [E.2.2.2]; exact (show (rmN 85).frames + 1 ≤ (rmN 84).frames by decide), by rw [E.2.2.2]; exact (show 8 + (mNL (miB 85) + 11) + (rmN 85).locals ≤ (rmN 84).locals by decide), by rw [E.2.2.2]; exact (show 0 + (rmN 85).cells ≤ (rmN 84).cells by decide), by rw [E.2.2.2]; exact (show 0 + (rmN 85).slots ≤ (rmN 84).slots by decide)⟩ (Nat.le_of_ble_eq_true rfl) (fun vv s1009 hq => ?_) (fun ee s1009 hq => ?_)
              rotate_left
              · obtain ⟨rfl, e1010, hv, hrs1009, hps1009⟩ := hq; cases hv
              obtain ⟨rfl, e1010, hv, hrs1009, hps1009⟩ := hq
              cases hv
              show WS k 156 [(3, .int (Int32.ofInt (dp + (-1)))), (5, .int (Int32.ofInt (iC t 16 (c).toNat))), (0, .ref (A 19)), (2, .ref (A 39)), (1, .int (Int32.ofInt xv)), (4, .int (Int32.ofInt c))] [.int (Int32.ofInt e1010), .int (Int32.ofInt ((dp + (-1)) - 1)), .ref (A 24)] (Wd A dT t) 0 0
              refine z_ast X 24 rfl (c518_ok rfl) rfl (by first | exact oq_d588e9be g1006 | omega) (show ((dp + (-1)) - 1) < 200 by first | exact oq_0351bda7 hi.2.1.2 hi.2.2.1.1 hi.2.2.1.2.2 | omega) (cbig_ok rfl) (wd_gen (fun s1011 hs1011 => ?_))
              have Is1011 : Bd s1011 := eqB hs1011 (bd_C I (show ((-2147483648) : Int) ≤ e1010 ∧ e1010 ≤ 2147483647 by first | exact ⟨hps1009.1.1, hps1009.1.2⟩ | omega) hrs1009)
              have Fs1011 := eqF hs1011 (fm_C F (inl_ok (a := 20) rfl))
              refine z_inc X (x := c) (lv' := [(4, .int (Int32.ofInt (c + 1))), (3, .int (Int32.ofInt (dp + (-1)))), (5, .int (Int32.ofInt (iC t 16 (c).toNat))), (0, .ref (A 19)), (2, .ref (A 39)), (1, .int (Int32.ofInt xv))]) rfl (by decide) (List.Mem.tail _ (List.Mem.tail _ (List.Mem.tail _ (List.Mem.tail _ (List.Mem.tail _ (List.Mem.head _)))))) (fun _ h => h) (z_goto X (t := 28) rfl rfl (WS_pq [3, 4, 5, 1, 0] (lv' := [(0, .ref (A 19)), (2, .ref (A 39)), (1, .int (Int32.ofInt xv)), (3, .int (Int32.ofInt (dp + (-1)))), (4, .int (Int32.ofInt (c + 1)))]) rfl ?_))
              exact ih _ xv (dp + (-1)) (c + 1) Is1011 Fs1011 (by show _ = wkF (fun j => Int32.ofInt (iC s 33 j)) (fun j => iC s 16 ((bgV s x).toNat + j)) (c + 1 - bgV s x).toNat; rw [show (c + 1 - bgV s x).toNat = (c - bgV s x).toNat + 1 by first | (clear g1005; omega) | omega]; exact wk_two hq hcd (by first | (clear g1005; omega) | omega) (by first | (clear g1005; omega) | omega) hps1009.2 hps1009.1 hs1011) (by first | exact ⟨And.intro (hi.1.1) (And.intro (hi.1.2.1) (hi.1.2.2)), And.intro (oq_6c14892a g1006) (oq_faf7ab2f hi.2.1.2), And.intro (hi.2.2.1.1) (And.intro (oq_03182e9e hi.2.2.1.2.1) (oq_228270fa g1002 b1001.2)), by first | (clear g1005; omega) | omega⟩ | omega) (by first | exact qk_me hm (by decide) (oq_b0a4f3e2 g1002 b1001.2) | omega) kx
          ·
            refine z_load_n X (x := dp) rfl (List.Mem.tail _ (List.Mem.tail _ (List.Mem.tail _ (List.Mem.tail _ (List.Mem.head _))))) (z_if_le X (t := 157) rfl rfl ⟨by first | exact oq_fa4e5087 hi.2.1.1 | omega, by first | exact oq_b8da4ef2 hi.2.1.2 hi.2.2.1.1 hi.2.2.1.2.2 | omega⟩ (fun g1012 => ?_) (fun g1012 => ?_))
            ·
              refine z_inc X (x := c) (lv' := [(4, .int (Int32.ofInt (c + 1))), (5, .int (Int32.ofInt (iC t 16 (c).toNat))), (0, .ref (A 19)), (2, .ref (A 39)), (1, .int (Int32.ofInt xv)), (3, .int (Int32.ofInt dp))]) rfl (by decide) (List.Mem.tail _ (List.Mem.tail _ (List.Mem.tail _ (List.Mem.tail _ (List.Mem.tail _ (List.Mem.head _)))))) (fun _ h => h) (z_goto X (t := 28) rfl rfl (WS_pq [2, 3, 4, 5, 0] (lv' := [(0, .ref (A 19)), (2, .ref (A 39)), (1, .int (Int32.ofInt xv)), (3, .int (Int32.ofInt dp)), (4, .int (Int32.ofInt (c + 1)))]) rfl ?_))
              exact ih _ xv dp (c + 1) I F (by show _ = wkF (fun j => Int32.ofInt (iC s 33 j)) (fun j => iC s 16 ((bgV s x).toNat + j)) (c + 1 - bgV s x).toNat; rw [show (c + 1 - bgV s x).toNat = (c - bgV s x).toNat + 1 by omega]; exact wk_not0 hq hcd (by omega) (by omega)) (by first | exact ⟨And.intro (hi.1.1) (And.intro (hi.1.2.1) (hi.1.2.2)), And.intro (hi.2.1.1) (oq_b99f0f32 hi.2.1.2), And.intro (hi.2.2.1.1) (And.intro (oq_03182e9e hi.2.2.1.2.1) (oq_228270fa g1002 b1001.2)), by omega⟩ | omega) (by first | exact qk_me hm (by decide) (oq_b0a4f3e2 g1002 b1001.2) | omega) kx
            ·
              refine z_aload_n X (x := A 19) rfl (List.Mem.tail _ (List.Mem.head _)) (s_getR X 19 rfl (c518_ok rfl) rfl rfl (z_load_n X (x := dp) rfl (List.Mem.tail _ (List.Mem.tail _ (List.Mem.tail _ (List.Mem.tail _ (List.Mem.head _))))) (z_const X rfl (z_sub X rfl (z_const X rfl (z_aload_n X (x := A 19) rfl (List.Mem.tail _ (List.Mem.head _)) (s_getR X 19 rfl (c518_ok rfl) rfl rfl (z_load_n X (x := dp) rfl (List.Mem.tail _ (List.Mem.tail _ (List.Mem.tail _ (List.Mem.tail _ (List.Mem.head _))))) (z_const X rfl (z_sub X rfl (z_ald X 24 rfl (c518_ok rfl) rfl (by first | exact oq_a4f22177 g1012 | omega) (show (dp - 1) < 200 by first | exact oq_a866b48b hi.2.1.2 hi.2.2.1.1 hi.2.2.1.2.2 | omega) (cbig_ok rfl) ?_)))))))))))
              have b1013 := bc_20 I (show ((dp - 1)).toNat < 200 by first | exact oq_a653bb33 hi.2.1.2 hi.2.2.1.1 hi.2.2.1.2.2 | omega)
              refine z_sub X rfl (z_anyV (fun y1014 hy1014 ey1014 => ?_))
              refine z_ast X 24 rfl (c518_ok rfl) rfl (by first | exact oq_a4f22177 g1012 | omega) (show (dp - 1) < 200 by first | exact oq_a866b48b hi.2.1.2 hi.2.2.1.1 hi.2.2.1.2.2 | omega) (cbig_ok rfl) (wd_gen (fun s1015 hs1015 => ?_))
              have Is1015 : Bd s1015 := eqB hs1015 (bd_C I (show ((-2147483648) : Int) ≤ y1014 ∧ y1014 ≤ 2147483647 by first | exact ⟨hy1014.1, hy1014.2⟩ | omega) hy1014)
              have Fs1015 := eqF hs1015 (fm_C F (inl_ok (a := 20) rfl))
              refine z_goto X (t := 157) rfl rfl (z_inc X (x := c) (lv' := [(4, .int (Int32.ofInt (c + 1))), (5, .int (Int32.ofInt (iC t 16 (c).toNat))), (0, .ref (A 19)), (2, .ref (A 39)), (1, .int (Int32.ofInt xv)), (3, .int (Int32.ofInt dp))]) rfl (by decide) (List.Mem.tail _ (List.Mem.tail _ (List.Mem.tail _ (List.Mem.tail _ (List.Mem.tail _ (List.Mem.head _)))))) (fun _ h => h) (z_goto X (t := 28) rfl rfl (WS_pq [2, 3, 4, 5, 0] (lv' := [(0, .ref (A 19)), (2, .ref (A 39)), (1, .int (Int32.ofInt xv)), (3, .int (Int32.ofInt dp)), (4, .int (Int32.ofInt (c + 1)))]) rfl ?_)))
              exact ih _ xv dp (c + 1) Is1015 Fs1015 (by show _ = wkF (fun j => Int32.ofInt (iC s 33 j)) (fun j => iC s 16 ((bgV s x).toNat + j)) (c + 1 - bgV s x).toNat; rw [show (c + 1 - bgV s x).toNat = (c - bgV s x).toNat + 1 by omega]; exact wk_not hq hcd (by omega) (by omega) ey1014 hy1014 hs1015) (by first | exact ⟨And.intro (hi.1.1) (And.intro (hi.1.2.1) (hi.1.2.2)), And.intro (hi.2.1.1) (oq_b99f0f32 hi.2.1.2), And.intro (hi.2.2.1.1) (And.intro (oq_03182e9e hi.2.2.1.2.1) (oq_228270fa g1002 b1001.2)), by omega⟩ | omega) (by first | exact qk_me hm (by decide) (oq_b0a4f3e2 g1002 b1001.2) | omega) kx
        ·
          refine z_load_n X (x := dp) rfl (List.Mem.tail _ (List.Mem.tail _ (List.Mem.tail _ (List.Mem.tail _ (List.Mem.head _))))) (z_sipush X rfl (z_icmp_ge X (t := 157) rfl rfl ⟨by first | exact oq_fa4e5087 hi.2.1.1 | omega, by first | exact oq_b8da4ef2 hi.2.1.2 hi.2.2.1.1 hi.2.2.1.2.2 | omega⟩ (by decide) (fun g1016 => ?_) (fun g1016 => ?_)))
          ·
            refine z_inc X (x := c) (lv' := [(4, .int (Int32.ofInt (c + 1))), (5, .int (Int32.ofInt (iC t 16 (c).toNat))), (0, .ref (A 19)), (2, .ref (A 39)), (1, .int (Int32.ofInt xv)), (3, .int (Int32.ofInt dp))]) rfl (by decide) (List.Mem.tail _ (List.Mem.tail _ (List.Mem.tail _ (List.Mem.tail _ (List.Mem.tail _ (List.Mem.head _)))))) (fun _ h => h) (z_goto X (t := 28) rfl rfl (WS_pq [2, 3, 4, 5, 0] (lv' := [(0, .ref (A 19)), (2, .ref (A 39)), (1, .int (Int32.ofInt xv)), (3, .int (Int32.ofInt dp)), (4, .int (Int32.ofInt (c + 1)))]) rfl ?_))
            exact ih _ xv dp (c + 1) I F (by show _ = wkF (fun j => Int32.ofInt (iC s 33 j)) (fun j => iC s 16 ((bgV s x).toNat + j)) (c + 1 - bgV s x).toNat; rw [show (c + 1 - bgV s x).toNat = (c - bgV s x).toNat + 1 by omega]; exact wk_two0 hq hcd (by omega) (by omega) (by omega)) (by first | exact ⟨And.intro (hi.1.1) (And.intro (hi.1.2.1) (hi.1.2.2)), And.intro (hi.2.1.1) (oq_b99f0f32 hi.2.1.2), And.intro (hi.2.2.1.1) (And.intro (oq_03182e9e hi.2.2.1.2.1) (oq_228270fa g1002 b1001.2)), oq_e14e5bb6 g1016 g1002 b1001.2 hi.2.2.1.1 hi.2.1.2⟩ | omega) (by first | exact qk_me hm (by decide) (oq_b0a4f3e2 g1002 b1001.2) | omega) kx
          ·
            refine z_aload_n X (x := A 19) rfl (List.Mem.tail _ (List.Mem.head _)) (s_getR X 19 rfl (c518_ok rfl) rfl rfl (z_load_n X (x := dp) rfl (List.Mem.tail _ (List.Mem.tail _ (List.Mem.tail _ (List.Mem.tail _ (List.Mem.head _))))) (z_load X (x := (iC t 16 (c).toNat)) rfl (List.Mem.head _) (z_if_lt X (t := 77) rfl rfl (rng_to _) (fun g1017 => ?_) (fun g1017 => ?_)))))
            ·
              refine z_aload_n X (x := A 39) rfl (List.Mem.tail _ (List.Mem.tail _ (List.Mem.head _))) (z_const X rfl (z_load X (x := (iC t 16 (c).toNat)) rfl (List.Mem.head _) (z_sub X rfl (z_ald X 39 rfl (c518_ok rfl) rfl (by first | exact oq_c38d07c4 g1017 | omega) (show ((-1) - (iC t 16 (c).toNat)) < 7 by first | exact oq_a1f4cde5 g1004 | omega) (cbig_ok rfl) ?_))))
              have b1018 := bc_33 I (show (((-1) - (iC t 16 (c).toNat))).toNat < 7 by first | exact oq_91b916ba g1004 | omega)
              refine z_ast X 24 rfl (c518_ok rfl) rfl (by first | exact hi.2.1.1 | omega) (show dp < 200 by first | exact g1016 | omega) (cbig_ok rfl) (wd_gen (fun s1019 hs1019 => ?_))
              have Is1019 : Bd s1019 := eqB hs1019 (bd_C I (show ((-2147483648) : Int) ≤ (iC t 33 (((-1) - (iC t 16 (c).toNat))).toNat) ∧ (iC t 33 (((-1) - (iC t 16 (c).toNat))).toNat) ≤ 2147483647 by first | exact ⟨b1018.1, b1018.2⟩ | omega) (rng_to _))
              have Fs1019 := eqF hs1019 (fm_C F (inl_ok (a := 20) rfl))
              refine z_inc X (x := dp) (lv' := [(3, .int (Int32.ofInt (dp + 1))), (5, .int (Int32.ofInt (iC t 16 (c).toNat))), (0, .ref (A 19)), (2, .ref (A 39)), (1, .int (Int32.ofInt xv)), (4, .int (Int32.ofInt c))]) rfl (by decide) (List.Mem.tail _ (List.Mem.tail _ (List.Mem.tail _ (List.Mem.tail _ (List.Mem.head _))))) (fun _ h => h) (z_goto X (t := 157) rfl rfl (z_inc X (x := c) (lv' := [(4, .int (Int32.ofInt (c + 1))), (3, .int (Int32.ofInt (dp + 1))), (5, .int (Int32.ofInt (iC t 16 (c).toNat))), (0, .ref (A 19)), (2, .ref (A 39)), (1, .int (Int32.ofInt xv))]) rfl (by decide) (List.Mem.tail _ (List.Mem.tail _ (List.Mem.tail _ (List.Mem.tail _ (List.Mem.tail _ (List.Mem.head _)))))) (fun _ h => h) (z_goto X (t := 28) rfl rfl (WS_pq [3, 4, 5, 1, 0] (lv' := [(0, .ref (A 19)), (2, .ref (A 39)), (1, .int (Int32.ofInt xv)), (3, .int (Int32.ofInt (dp + 1))), (4, .int (Int32.ofInt (c + 1)))]) rfl ?_))))
              exact ih _ xv (dp + 1) (c + 1) Is1019 Fs1019 (by show _ = wkF (fun j => Int32.ofInt (iC s 33 j)) (fun j => iC s 16 ((bgV s x).toNat + j)) (c + 1 - bgV s x).toNat; rw [show (c + 1 - bgV s x).toNat = (c - bgV s x).toNat + 1 by omega]; exact wk_push hq hcd (by omega) (Or.inr ⟨by omega, congrArg Int32.ofInt (by show _ = iC s 33 _; exact fm_c F (by decide))⟩) (rng_to _) (by omega) hs1019) (by first | exact ⟨And.intro (hi.1.1) (And.intro (hi.1.2.1) (hi.1.2.2)), And.intro (oq_54f49eb5 hi.2.1.1) (oq_95ca5783 hi.2.1.2), And.intro (hi.2.2.1.1) (And.intro (oq_03182e9e hi.2.2.1.2.1) (oq_228270fa g1002 b1001.2)), by omega⟩ | omega) (by first | exact qk_me hm (by decide) (oq_b0a4f3e2 g1002 b1001.2) | omega) kx
            ·
              refine z_load X (x := (iC t 16 (c).toNat)) rfl (List.Mem.head _) (z_goto X (t := 83) rfl rfl (z_ast X 24 rfl (c518_ok rfl) rfl (by first | exact hi.2.1.1 | omega) (show dp < 200 by first | exact g1016 | omega) (cbig_ok rfl) (wd_gen (fun s1020 hs1020 => ?_))))
              have Is1020 : Bd s1020 := eqB hs1020 (bd_C I (show ((-2147483648) : Int) ≤ (iC t 16 (c).toNat) ∧ (iC t 16 (c).toNat) ≤ 2147483647 by first | exact ⟨b1003.1, b1003.2⟩ | omega) (rng_to _))
              have Fs1020 := eqF hs1020 (fm_C F (inl_ok (a := 20) rfl))
              refine z_inc X (x := dp) (lv' := [(3, .int (Int32.ofInt (dp + 1))), (5, .int (Int32.ofInt (iC t 16 (c).toNat))), (0, .ref (A 19)), (2, .ref (A 39)), (1, .int (Int32.ofInt xv)), (4, .int (Int32.ofInt c))]) rfl (by decide) (List.Mem.tail _ (List.Mem.tail _ (List.Mem.tail _ (List.Mem.tail _ (List.Mem.head _))))) (fun _ h => h) (z_goto X (t := 157) rfl rfl (z_inc X (x := c) (lv' := [(4, .int (Int32.ofInt (c + 1))), (3, .int (Int32.ofInt (dp + 1))), (5, .int (Int32.ofInt (iC t 16 (c).toNat))), (0, .ref (A 19)), (2, .ref (A 39)), (1, .int (Int32.ofInt xv))]) rfl (by decide) (List.Mem.tail _ (List.Mem.tail _ (List.Mem.tail _ (List.Mem.tail _ (List.Mem.tail _ (List.Mem.head _)))))) (fun _ h => h) (z_goto X (t := 28) rfl rfl (WS_pq [3, 4, 5, 1, 0] (lv' := [(0, .ref (A 19)), (2, .ref (A 39)), (1, .int (Int32.ofInt xv)), (3, .int (Int32.ofInt (dp + 1))), (4, .int (Int32.ofInt (c + 1)))]) rfl ?_))))
              exact ih _ xv (dp + 1) (c + 1) Is1020 Fs1020 (by show _ = wkF (fun j => Int32.ofInt (iC s 33 j)) (fun j => iC s 16 ((bgV s x).toNat + j)) (c + 1 - bgV s x).toNat; rw [show (c + 1 - bgV s x).toNat = (c - bgV s x).toNat + 1 by omega]; exact wk_push hq hcd (by omega) (Or.inl ⟨by omega, rfl⟩) (rng_to _) (by omega) hs1020) (by first | exact ⟨And.intro (hi.1.1) (And.intro (hi.1.2.1) (hi.1.2.2)), And.intro (oq_54f49eb5 hi.2.1.1) (oq_95ca5783 hi.2.1.2), And.intro (hi.2.2.1.1) (And.intro (oq_03182e9e hi.2.2.1.2.1) (oq_228270fa g1002 b1001.2)), by omega⟩ | omega) (by first | exact qk_me hm (by decide) (oq_b0a4f3e2 g1002 b1001.2) | omega) kx
  refine z_load_n X (x := x) rfl (List.Mem.tail _ (List.Mem.head _)) (z_const X rfl (z_icmp_ne X (t := 19) rfl rfl ⟨by first | exact oq_97ee2c2a p0.1 | omega, by first | exact oq_0e78ca7d p0.2 | omega⟩ (by decide) (fun g1 => ?_) (fun g1 => ?_)))
  ·
    refine z_const X rfl (z_store_n X (lv' := [(3, .int (Int32.ofInt 0)), (0, .ref (A 19)), (1, .int (Int32.ofInt x)), (2, .ref (A 39))]) rfl (by decide) (fun _ h => h) (z_aload_n X (x := A 19) rfl (List.Mem.tail _ (List.Mem.head _)) (z_load_n X (x := x) rfl (List.Mem.tail _ (List.Mem.tail _ (List.Mem.head _))) (z_callV X 19 (rm := rmN 70) (As := [.int (Int32.ofInt x)]) (st := []) rfl rfl (by decide) rfl (by rw [E.1, E.2.1, E.2.2.1]; exact c7_beginOf3 G I (by first | exact ⟨oq_7a1025bf g1 p0.1, p0.2⟩ | omega)) ⟨by rw [E.2.2.2]; exact (show (rmN 70).frames + 1 ≤ (rmN 84).frames by decide), by rw [E.2.2.2]; exact (show 8 + (mNL (miB 70) + 11) + (rmN 70).locals ≤ (rmN 84).locals by decide), by rw [E.2.2.2]; exact (show 0 + (rmN 70).cells ≤ (rmN 84).cells by decide), by rw [E.2.2.2]; exact (show 0 + (rmN 70).slots ≤ (rmN 84).slots by decide)⟩ (Nat.le_of_ble_eq_true rfl) (fun vv s2 hq => ?_) (fun ee s2 hq => ?_)))))
    rotate_left
    · obtain ⟨rfl, e3, hv, hrs2, hps2⟩ := hq; cases hv
    obtain ⟨rfl, e3, hv, hrs2, hps2⟩ := hq
    cases hv
    show WS k 26 [(3, .int (Int32.ofInt 0)), (0, .ref (A 19)), (1, .int (Int32.ofInt x)), (2, .ref (A 39))] [.int (Int32.ofInt e3)] (Wd A dT s) 0 0
    have hbg := hps2
    refine z_store X (lv' := [(4, .int (Int32.ofInt e3)), (3, .int (Int32.ofInt 0)), (0, .ref (A 19)), (1, .int (Int32.ofInt x)), (2, .ref (A 39))]) rfl (by decide) (fun _ h => h) (WS_pq [2, 4, 3, 1, 0] (lv' := [(0, .ref (A 19)), (2, .ref (A 39)), (1, .int (Int32.ofInt x)), (3, .int (Int32.ofInt 0)), (4, .int (Int32.ofInt e3))]) rfl (L28 ((200 - e3 : Int).toNat + 1) s x 0 e3 I F (by show [] = _; rw [show (e3 - bgV s x).toNat = 0 by first | (clear g1; omega) | omega]; rfl) (by first | exact ⟨oq_54ddafa6 g1 p0.2 p0.1, And.intro (by decide) (oq_526a3514 hps2.1), And.intro (oq_151a919a hps2.1 hps2.2.1) (And.intro (oq_fa711800 hps2.1) (hps2.2.2)), Or.inl (hps2.1)⟩ | omega) (Nat.lt_succ_self _) ?_))
    intro s4 x5 x6 Is4 Fs4 Qs4 hs4
    refine z_aload_n X (x := A 19) rfl (List.Mem.head _) (s_getR X 19 rfl (c518_ok rfl) rfl rfl (z_const X rfl (z_ald X 24 rfl (c518_ok rfl) rfl (by decide) (show 0 < 200 by decide) (cbig_ok rfl) ?_)))
    have b7 := bc_20 Is4 (show (0 : Int).toNat < 200 by first | exact oq_e7d7c2b9 | omega)
    exact w_iret X.1 q hRt rfl (ax_d X (show cdA 84 169 = some (.ireturn, 1, 0, 0, 0) from rfl)) (Nat.zero_le _) (Nat.zero_le _) ⟨_, rfl, Is4, Fs4, (iC s4 20 (0 : Int).toNat), rfl, (rng_to _), ⟨fun h => absurd h (by first | (clear g1; omega) | omega), fun _ w hw => wk_end Qs4 rfl (by have z := hw; unfold cdL at z; rw [show x = x by first | (clear g1; omega) | omega] at z; rw [show (x6 - bgV s x).toNat = (iC s 17 (x : Int).toNat - bgV s x).toNat by first | (clear g1; omega) | omega, show x = x by first | (clear g1; omega) | omega]; exact z)⟩⟩
  ·
    refine z_aload_n X (x := A 39) rfl (List.Mem.tail _ (List.Mem.tail _ (List.Mem.head _))) (z_const X rfl (z_ald X 39 rfl (c518_ok rfl) rfl (by decide) (show 0 < 7 by decide) (cbig_ok rfl) ?_))
    have b8 := bc_33 I (show (0 : Int).toNat < 7 by first | exact oq_e8ec3fa8 | omega)
    refine z_const X rfl (z_aload_n X (x := A 39) rfl (List.Mem.tail _ (List.Mem.tail _ (List.Mem.head _))) (z_const X rfl (z_ald X 39 rfl (c518_ok rfl) rfl (by decide) (show 1 < 7 by decide) (cbig_ok rfl) ?_)))
    have b9 := bc_33 I (show (1 : Int).toNat < 7 by first | exact oq_a32b659c | omega)
    refine z_mul X rfl (z_anyV (fun y10 hy10 ey10 => ?_))
    refine z_add X rfl (z_anyV (fun y11 hy11 ey11 => ?_))
    refine z_aload_n X (x := A 39) rfl (List.Mem.tail _ (List.Mem.tail _ (List.Mem.head _))) (z_const X rfl (z_ald X 39 rfl (c518_ok rfl) rfl (by decide) (show 2 < 7 by decide) (cbig_ok rfl) ?_))
    have b12 := bc_33 I (show (2 : Int).toNat < 7 by first | exact oq_62527c24 | omega)
    refine z_add X rfl (z_anyV (fun y13 hy13 ey13 => ?_))
    exact w_iret X.1 q hRt rfl (ax_d X (show cdA 84 18 = some (.ireturn, 1, 0, 0, 0) from rfl)) (Nat.zero_le _) (Nat.zero_le _) ⟨_, rfl, I, F, y13, rfl, hy13, ⟨fun _ => ld_0 ey10 ey11 ey13, fun h => absurd h (by omega)⟩⟩
end M87r
