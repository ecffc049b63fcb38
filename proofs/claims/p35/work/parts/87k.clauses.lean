/-! Clauses, and all of them: what a text of rules comes to -/
/-- the clause k at p: its fault f (0: none), its mode md (3 a load, 8 a join), its codes c, where it goes on q -/
def CLR (B : Nat → Int) (N k p f : Int) (md : Nat) (c : List Int) (q : Int) : Prop :=
  (f = 1 ∧ whV B N p ≠ 247162 ∧ whV B N p ≠ 208022) ∨ (((whV B N p = 247162 ∧ md = 3) ∨ (whV B N p = 208022 ∧ md = 8)) ∧ ((8 ≤ k ∧ f = 3) ∨ (k < 8 ∧ ∃ r : Rd, PGR B N md [] (sk B N (wdE B N p)) 0 r ∧ ((r.1 ≠ 0 ∧ f = r.1) ∨ (r.1 = 0 ∧ ¬ chT B N r.2.2 59 ∧ f = 1) ∨ (r.1 = 0 ∧ chT B N r.2.2 59 ∧ f = 0 ∧ c = r.2.1 ∧ q = sk B N (r.2.2 + 1))))))
theorem clr_un {B : Nat → Int} {N k p f f' : Int} {md md' : Nat} {c c' : List Int} {q q' : Int} (h : CLR B N k p f md c q) (h' : CLR B N k p f' md' c' q') : f = f' ∧ (f = 0 → md = md' ∧ c = c' ∧ q = q') := by
  rcases h with ⟨h0, h1, h2⟩ | ⟨h1, h2⟩
  · rcases h' with ⟨k0, k1, k2⟩ | ⟨k1, k2⟩
    · exact ⟨by omega, fun z => by omega⟩
    · exfalso; clear k2; omega
  · rcases h' with ⟨k0, k1, k2⟩ | ⟨k1, k2⟩
    · exfalso; clear h2; omega
    · have em : md = md' := by clear h2 k2; omega
      subst em
      rcases h2 with h2 | ⟨h3, r, r1, r2⟩
      · rcases k2 with k2 | k2
        · exact ⟨by omega, fun z => by omega⟩
        · exfalso; have := k2.1; omega
      · rcases k2 with k2 | ⟨k3, s, s1, s2⟩
        · exfalso; omega
        · have e := pgr_un r1 s1
          subst e
          rcases r2 with ⟨a1, a2⟩ | ⟨a1, a2, a3⟩ | ⟨a1, a2, a3, a4, a5⟩
          · rcases s2 with ⟨b1, b2⟩ | ⟨b1, b2, b3⟩ | ⟨b1, b2, b3, b4, b5⟩
            · exact ⟨by omega, fun z => by omega⟩
            · exact absurd b1 a1
            · exact absurd b1 a1
          · rcases s2 with ⟨b1, b2⟩ | ⟨b1, b2, b3⟩ | ⟨b1, b2, b3, b4, b5⟩
            · exact absurd a1 b1
            · exact ⟨by omega, fun z => by omega⟩
            · exact absurd b2 a2
          · rcases s2 with ⟨b1, b2⟩ | ⟨b1, b2, b3⟩ | ⟨b1, b2, b3, b4, b5⟩
            · exact absurd a1 b1
            · exact absurd a2 b2
            · exact ⟨by omega, fun _ => ⟨rfl, by rw [a4, b4], by rw [a5, b5]⟩⟩
/-- n clauses are read, the text goes on at p -/
def CHN (B : Nat → Int) (N : Int) : Nat → Int → Prop
  | 0, p => p = sk B N 0
  | n + 1, p => ∃ (q : Int) (md : Nat) (c : List Int), CHN B N n q ∧ q < N ∧ CLR B N n q 0 md c p
theorem chn_un {B : Nat → Int} {N : Int} : ∀ (n : Nat) {p p' : Int}, CHN B N n p → CHN B N n p' → p = p'
  | 0, p, p', h, h' => by
    replace h : p = sk B N 0 := h
    replace h' : p' = sk B N 0 := h'
    rw [h, h']
  | n + 1, p, p', ⟨q, md, c, h1, h2, h3⟩, ⟨q', md', c', k1, k2, k3⟩ => by
    have e := chn_un n h1 k1
    subst e
    exact ((clr_un h3 k3).2 rfl).2.2
theorem chn_lo {B : Nat → Int} {N : Int} : ∀ (m n : Nat) {p : Int}, CHN B N (n + m) p → ∃ q, CHN B N n q ∧ (0 < m → q < N ∧ ∃ (md : Nat) (c : List Int) (r : Int), CLR B N n q 0 md c r)
  | 0, n, p, h => ⟨p, h, fun z => absurd z (Nat.lt_irrefl _)⟩
  | m + 1, n, p, ⟨q, md, c, h1, h2, h3⟩ => by
    by_cases z : m = 0
    · subst z
      exact ⟨q, h1, fun _ => ⟨h2, md, c, p, h3⟩⟩
    · obtain ⟨q', k1, k2⟩ := chn_lo m n h1
      exact ⟨q', k1, fun _ => k2 (by omega)⟩
/-- the text of rules has n clauses (f 0), or after n of them the fault f -/
def RUL (B : Nat → Int) (N f : Int) (n : Nat) : Prop := ∃ p, CHN B N n p ∧ ((f = 0 ∧ N ≤ p) ∨ (f ≠ 0 ∧ p < N ∧ ∃ (md : Nat) (c : List Int) (q : Int), CLR B N n p f md c q))
theorem rul_le {B : Nat → Int} {N f f' : Int} {n n' : Nat} (h : RUL B N f n) (h' : RUL B N f' n') : n' ≤ n := by
  obtain ⟨p, h1, h2⟩ := h
  obtain ⟨p', k1, k2⟩ := h'
  rcases Nat.lt_or_ge n n' with z | z
  · exfalso
    obtain ⟨m, rfl⟩ : ∃ m, n' = n + (m + 1) := ⟨n' - n - 1, by omega⟩
    obtain ⟨q, q1, q2⟩ := chn_lo (m + 1) n k1
    have e := chn_un n h1 q1
    subst e
    obtain ⟨q3, md, c, r, q4⟩ := q2 (Nat.succ_pos _)
    rcases h2 with h2 | ⟨h2, h3, md', c', r', h4⟩
    · omega
    · exact h2 (clr_un h4 q4).1
  · exact z
theorem rul_un {B : Nat → Int} {N f f' : Int} {n n' : Nat} (h : RUL B N f n) (h' : RUL B N f' n') : f = f' ∧ n = n' := by
  have e : n = n' := Nat.le_antisymm (rul_le h' h) (rul_le h h')
  subst e
  refine ⟨?_, rfl⟩
  obtain ⟨p, h1, h2⟩ := h
  obtain ⟨p', k1, k2⟩ := h'
  have e := chn_un n h1 k1
  subst e
  rcases h2 with h2 | ⟨h2, h3, md, c, q, h4⟩
  · rcases k2 with k2 | k2
    · omega
    · omega
  · rcases k2 with k2 | ⟨k2, k3, md', c', q', k4⟩
    · omega
    · exact (clr_un h4 k4).1
/-- what a call of rules answers: the clauses, or the fault less 10 -/
def RUA (B : Nat → Int) (N e : Int) : Prop := ∃ (f : Int) (n : Nat), RUL B N f n ∧ ((f = 0 ∧ e = (n : Int)) ∨ (f ≠ 0 ∧ e = f - 10))
theorem rua_un {B : Nat → Int} {N e e' : Int} (h : RUA B N e) (h' : RUA B N e') : e = e' := by
  obtain ⟨f, n, h1, h2⟩ := h
  obtain ⟨f', n', k1, k2⟩ := h'
  obtain ⟨e1, e2⟩ := rul_un h1 k1
  subst e1 e2
  omega
/-- a clause of the model's -/
def CLM (B : Nat → Int) (N : Int) (s t : PS) : Prop := ∃ (f : Int) (md : Nat) (c : List Int) (q : Int), CLR B N (iI s 86) (sk B N (iI s 77)) f md c q ∧ ((iI t 79 = 0 ∧ f = 0 ∧ sk B N (iI t 77) = q) ∨ (iI t 79 ≠ 0 ∧ iI t 79 = f))
theorem clm_1 {B : Nat → Int} {N : Int} {s t : PS} (h1 : whV B N (sk B N (iI s 77)) ≠ 247162) (h2 : whV B N (sk B N (iI s 77)) ≠ 208022) (hf : iI t 79 = 1) : CLM B N s t := ⟨1, 0, [], 0, Or.inl ⟨rfl, h1, h2⟩, Or.inr ⟨by omega, hf⟩⟩
theorem clm_3 {B : Nat → Int} {N : Int} {s t : PS} (h1 : whV B N (sk B N (iI s 77)) = 247162 ∨ whV B N (sk B N (iI s 77)) = 208022) (h2 : 8 ≤ iI s 86) (hf : iI t 79 = 3) : CLM B N s t := by
  rcases h1 with h1 | h1
  · exact ⟨3, 3, [], 0, Or.inr ⟨Or.inl ⟨h1, rfl⟩, Or.inl ⟨h2, rfl⟩⟩, Or.inr ⟨by omega, hf⟩⟩
  · exact ⟨3, 8, [], 0, Or.inr ⟨Or.inr ⟨h1, rfl⟩, Or.inl ⟨h2, rfl⟩⟩, Or.inr ⟨by omega, hf⟩⟩
theorem clm_of {B : Nat → Int} {N p : Int} {md : Nat} {s b c u : PS} (hp : p = sk B N (iI s 77)) (hw : (whV B N p = 247162 ∧ md = 3) ∨ (whV B N p = 208022 ∧ md = 8)) (hk : iI s 86 < 8) (hou : OUm B N md (sk B N (wdE B N p)) 0 b) (hs : (iI b 79 ≠ 0 ∧ iI u 79 = iI b 79) ∨ (iI b 79 = 0 ∧ SGN B N 59 b c ∧ iI u 79 = iI c 79 ∧ iI u 77 = iI c 77)) : CLM B N s u := by
  subst hp
  obtain ⟨r, r1, r2⟩ := hou
  rcases r2 with ⟨f0, z, q⟩ | ⟨f0, z⟩
  · rcases hs with hs | ⟨-, hs, hf, ha⟩
    · exact absurd f0 hs.1
    · rcases hs with ⟨c1, c2, c3⟩ | ⟨c1, c2, c3⟩
      · rw [q] at c1 c2
        exact ⟨0, md, r.2.1, sk B N (r.2.2 + 1), Or.inr ⟨hw, Or.inr ⟨hk, r, r1, Or.inr (Or.inr ⟨z, c1, rfl, rfl, rfl⟩)⟩⟩, Or.inl ⟨by omega, rfl, by rw [ha, c2]⟩⟩
      · rw [q] at c1
        exact ⟨1, md, [], 0, Or.inr ⟨hw, Or.inr ⟨hk, r, r1, Or.inr (Or.inl ⟨z, c1, rfl⟩)⟩⟩, Or.inr ⟨by omega, by omega⟩⟩
  · rcases hs with hs | hs
    · exact ⟨r.1, md, [], 0, Or.inr ⟨hw, Or.inr ⟨hk, r, r1, Or.inl ⟨by omega, rfl⟩⟩⟩, Or.inr ⟨by omega, by omega⟩⟩
    · exact absurd hs.1 f0
/-- clauses of the model's so far -/
def CHM (B : Nat → Int) (N : Int) (t : PS) : Prop := (iI t 79 = 0 ∧ CHN B N (iI t 86).toNat (sk B N (iI t 77))) ∨ (iI t 79 ≠ 0 ∧ ∃ n : Nat, RUL B N (iI t 79) n)
theorem chm_0 {B : Nat → Int} {N : Int} {t : PS} (h : iI t 79 = 0) (h1 : iI t 86 = 0) (h2 : sk B N (iI t 77) = sk B N 0) : CHM B N t := Or.inl ⟨h, by rw [h1]; exact h2⟩
theorem chm_mv {B : Nat → Int} {N : Int} {t u : PS} (h : CHM B N t) (h1 : iI u 79 = iI t 79) (h2 : iI u 86 = iI t 86) (h3 : sk B N (iI u 77) = sk B N (iI t 77)) : CHM B N u := by
  unfold CHM
  rw [h1, h2, h3]
  exact h
theorem chm_up {B : Nat → Int} {N : Int} {t u : PS} (h : CHM B N t) (hf : iI t 79 = 0) (h0 : 0 ≤ iI t 86) (hp : sk B N (iI t 77) < N) (hc : CLM B N t u) (hn : iI u 79 = 0 → iI u 86 = iI t 86 + 1) : CHM B N u := by
  rcases h with ⟨-, h⟩ | h
  · obtain ⟨f, md, c, q, h1, h2⟩ := hc
    have ec : (((iI t 86).toNat : Nat) : Int) = iI t 86 := by omega
    rcases h2 with ⟨a, b, d⟩ | ⟨a, b⟩
    · subst b
      refine Or.inl ⟨a, ?_⟩
      rw [hn a, show (iI t 86 + 1).toNat = (iI t 86).toNat + 1 by omega, d]
      exact ⟨_, md, c, h, hp, by rw [ec]; exact h1⟩
    · exact Or.inr ⟨a, (iI t 86).toNat, _, h, Or.inr ⟨a, hp, md, c, q, by rw [ec, b]; exact h1⟩⟩
  · exact absurd hf h.1
theorem chm_end {B : Nat → Int} {N : Int} {t : PS} (h : CHM B N t) (h0 : 0 ≤ iI t 86) (he : iI t 79 = 0 → N ≤ iI t 77) {e : Int} (h1 : (iI t 79 = 0 ∧ e = iI t 86) ∨ (iI t 79 ≠ 0 ∧ e = iI t 79 - 10)) : RUA B N e := by
  rcases h with ⟨a, h⟩ | ⟨a, n, h⟩
  · have z := sk_le (B := B) (N := N) (p := iI t 77)
    exact ⟨0, (iI t 86).toNat, ⟨_, h, Or.inl ⟨rfl, by have := he a; omega⟩⟩, Or.inl ⟨rfl, by omega⟩⟩
  · exact ⟨_, n, h, Or.inr ⟨a, by omega⟩⟩
/-- a clause of the class's -/
def CLC (B : Nat → Int) (N x : Int) (s t : PS) (e : Int) : Prop := ∃ (f : Int) (md : Nat) (c : List Int) (q : Int), CLR B N x (iI s 4) f md c q ∧ ((e = 1 ∧ f = 0 ∧ iI t 4 = q) ∨ (e = 0 ∧ f ≠ 0 ∧ iI t 7 = f))
theorem clc_1 {B : Nat → Int} {N x : Int} {s t : PS} (h1 : whV B N (iI s 4) ≠ 247162) (h2 : whV B N (iI s 4) ≠ 208022) (hf : iI t 7 = 1) : CLC B N x s t 0 := ⟨1, 0, [], 0, Or.inl ⟨rfl, h1, h2⟩, Or.inr ⟨rfl, by decide, hf⟩⟩
theorem clc_3 {B : Nat → Int} {N x : Int} {s t : PS} (h1 : whV B N (iI s 4) = 247162 ∨ whV B N (iI s 4) = 208022) (h2 : 8 ≤ x) (hf : iI t 7 = 3) : CLC B N x s t 0 := by
  rcases h1 with h1 | h1
  · exact ⟨3, 3, [], 0, Or.inr ⟨Or.inl ⟨h1, rfl⟩, Or.inl ⟨h2, rfl⟩⟩, Or.inr ⟨rfl, by decide, hf⟩⟩
  · exact ⟨3, 8, [], 0, Or.inr ⟨Or.inr ⟨h1, rfl⟩, Or.inl ⟨h2, rfl⟩⟩, Or.inr ⟨rfl, by decide, hf⟩⟩
theorem clc_of {B : Nat → Int} {N x e1 e : Int} {md : Nat} {D : List Int} {s b c u : PS} (hw : (whV B N (iI s 4) = 247162 ∧ md = 3) ∨ (whV B N (iI s 4) = 208022 ∧ md = 8)) (hk : x < 8) (hr : RDc B N md (sk B N (wdE B N (iI s 4))) 0 D b e1) (hs : (e1 = 0 ∧ e = 0 ∧ iI u 7 = iI b 7) ∨ (e1 ≠ 0 ∧ PSS B N 59 b c e ∧ iI u 7 = iI c 7 ∧ iI u 4 = iI c 4)) : CLC B N x s u e := by
  obtain ⟨r, r1, r2⟩ := hr
  rcases r2 with ⟨f0, z, q, -⟩ | ⟨f0, z, q⟩
  · rcases hs with hs | ⟨-, hs, hf, ha⟩
    · omega
    · rcases hs with ⟨c0, c1, c2⟩ | ⟨c0, c1, c2⟩
      · rw [q] at c1 c2
        exact ⟨0, md, r.2.1, sk B N (r.2.2 + 1), Or.inr ⟨hw, Or.inr ⟨hk, r, r1, Or.inr (Or.inr ⟨z, c1, rfl, rfl, rfl⟩)⟩⟩, Or.inl ⟨c0, rfl, by rw [ha, c2]⟩⟩
      · rw [q] at c1
        exact ⟨1, md, [], 0, Or.inr ⟨hw, Or.inr ⟨hk, r, r1, Or.inr (Or.inl ⟨z, c1, rfl⟩)⟩⟩, Or.inr ⟨c0, by decide, by rw [hf, c2]⟩⟩
  · rcases hs with ⟨-, hs, hf⟩ | hs
    · exact ⟨r.1, md, [], 0, Or.inr ⟨hw, Or.inr ⟨hk, r, r1, Or.inl ⟨z, rfl⟩⟩⟩, Or.inr ⟨hs, z, by rw [hf, q]⟩⟩
    · exact absurd f0 hs.1
theorem clc_e {B : Nat → Int} {N x e : Int} {s t : PS} (h : CLC B N x s t e) : e = 0 ∨ e = 1 := by
  obtain ⟨f, md, c, q, h1, h2 | h2⟩ := h
  · exact Or.inr h2.1
  · exact Or.inl h2.1
/-- clauses of the class's so far -/
theorem chc_up {B : Nat → Int} {N x e : Int} {t u : PS} (h : CHN B N x.toNat (iI t 4)) (h0 : 0 ≤ x) (hp : iI t 4 < N) (hc : CLC B N x t u e) (he : e ≠ 0) : CHN B N (x + 1).toNat (iI u 4) := by
  obtain ⟨f, md, c, q, h1, h2 | h2⟩ := hc
  · obtain ⟨-, b, d⟩ := h2
    subst b
    rw [show (x + 1).toNat = x.toNat + 1 by omega, d]
    exact ⟨_, md, c, h, hp, by rw [show ((x.toNat : Nat) : Int) = x by omega]; exact h1⟩
  · exact absurd h2.1 he
theorem chc_no {B : Nat → Int} {N x e : Int} {t u v : PS} (h : CHN B N x.toNat (iI t 4)) (h0 : 0 ≤ x) (hp : iI t 4 < N) (hc : CLC B N x t u e) (he : e = 0) (hv : iI v 7 = iI u 7) : RUL B N (iI v 7) x.toNat ∧ iI v 7 ≠ 0 := by
  obtain ⟨f, md, c, q, h1, h2 | h2⟩ := hc
  · omega
  · obtain ⟨-, b, d⟩ := h2
    rw [hv, d]
    exact ⟨⟨_, h, Or.inr ⟨b, hp, md, c, q, by rw [show ((x.toNat : Nat) : Int) = x by omega]; exact h1⟩⟩, b⟩
theorem chc_9 {B : Nat → Int} {N x e : Int} {t u : PS} (hx : 8 ≤ x) (hc : CLC B N x t u e) : e = 0 := by
  obtain ⟨f, md, c, q, h1, h2 | h2⟩ := hc
  · exfalso
    obtain ⟨-, b, d⟩ := h2
    subst b
    rcases h1 with h1 | ⟨-, h1 | h1⟩
    · omega
    · omega
    · have := h1.1; omega
  · exact h2.1
section M87k
variable {l : Launch} {s0 : State} {D : va_G} {tys : List (ClassId × FieldType)} {a0 : Array Value} {A : Nat → Nat} {dT : Nat → ClassId} {s : PS}
theorem k_orsr3 (G : GX l s0 D tys a0 dT) {B : Nat → Int} {N : Int} (r : Nat) : (∀ {s : PS}, Bd s → FDB B N s → (iI s 77 ≤ 203) → (iI s 78 + ((r : Nat) : Int) = 7) → (iI s 78 = 7 → iI s 79 ≠ 0) → (iI s 79 = 0 → iI s 77 ≤ 202) → CT l s0 D A dT 210 (rkR (24 + 3 * (r))) [.ref (A 179)] s (fun o t => Bd t ∧ Fm [77, 79, 80, 78] [] s t ∧ FDB B N t ∧ ∃ e, o = .inl (some (.int (Int32.ofInt e))) ∧ rng e ∧ (iI t 78 = iI s 78 ∧ iI s 77 ≤ iI t 77 ∧ (iI t 77 = iI s 77 ∨ iI t 77 ≤ 203) ∧ (iI s 79 ≠ 0 → iI t 79 ≠ 0) ∧ (iI t 79 = 0 → iI t 77 ≤ iI s 75) ∧ (iI s 79 = 0 → iI s 77 < iI t 77) ∧ (e = 0 ∨ e = 1) ∧ PFm B N 5 s t))) ∧ (∀ {s : PS}, Bd s → FDB B N s → (iI s 77 ≤ 203) → (iI s 78 + ((r : Nat) : Int) = 7) → (iI s 78 = 7 → iI s 79 ≠ 0) → (iI s 79 = 0 → iI s 77 ≤ 202) → CT l s0 D A dT 211 (rkR (24 + 3 * (r) + 1)) [.ref (A 179)] s (fun o t => Bd t ∧ Fm [77, 79, 80, 78] [] s t ∧ FDB B N t ∧ ∃ e, o = .inl (some (.int (Int32.ofInt e))) ∧ rng e ∧ (iI t 78 = iI s 78 ∧ iI s 77 ≤ iI t 77 ∧ (iI t 77 = iI s 77 ∨ iI t 77 ≤ 203) ∧ (iI s 79 ≠ 0 → iI t 79 ≠ 0) ∧ (iI t 79 = 0 → iI t 77 ≤ iI s 75) ∧ (iI s 79 = 0 → iI s 77 < iI t 77) ∧ (e = 0 ∨ e = 1) ∧ PFm B N 6 s t))) ∧ (∀ {s : PS}, Bd s → FDB B N s → (iI s 77 ≤ 203) → (iI s 78 + ((r : Nat) : Int) = 7) → (iI s 78 = 7 → iI s 79 ≠ 0) → (iI s 79 = 0 → iI s 77 ≤ 202) → CT l s0 D A dT 212 (rkR (24 + 3 * (r) + 2)) [.ref (A 179)] s (fun o t => Bd t ∧ Fm [77, 79, 80, 78] [] s t ∧ FDB B N t ∧ ∃ e, o = .inl (some (.int (Int32.ofInt e))) ∧ rng e ∧ (iI t 78 = iI s 78 ∧ iI s 77 ≤ iI t 77 ∧ (iI t 77 = iI s 77 ∨ iI t 77 ≤ 203) ∧ (iI s 79 ≠ 0 → iI t 79 ≠ 0) ∧ (iI t 79 = 0 → iI t 77 ≤ iI s 75) ∧ (iI s 79 = 0 → iI s 77 < iI t 77) ∧ (e = 0 ∨ e = 1) ∧ PFm B N 8 s t))) := by
  induction r with
  | zero =>
    have hT : ∀ {s : PS}, Bd s → FDB B N s → (iI s 77 ≤ 203) → (iI s 78 + ((0 : Nat) : Int) = 7) → (iI s 78 = 7 → iI s 79 ≠ 0) → (iI s 79 = 0 → iI s 77 ≤ 202) → CT l s0 D A dT 210 (rkR (24 + 3 * (0))) [.ref (A 179)] s (fun o t => Bd t ∧ Fm [77, 79, 80, 78] [] s t ∧ FDB B N t ∧ ∃ e, o = .inl (some (.int (Int32.ofInt e))) ∧ rng e ∧ (iI t 78 = iI s 78 ∧ iI s 77 ≤ iI t 77 ∧ (iI t 77 = iI s 77 ∨ iI t 77 ≤ 203) ∧ (iI s 79 ≠ 0 → iI t 79 ≠ 0) ∧ (iI t 79 = 0 → iI t 77 ≤ iI s 75) ∧ (iI s 79 = 0 → iI s 77 < iI t 77) ∧ (e = 0 ∨ e = 1) ∧ PFm B N 5 s t)) := fun {_} I j p0 p1 p2 p3 => k_test03 G I j p0 p1 p2 p3
    have hA : ∀ {s : PS}, Bd s → FDB B N s → (iI s 77 ≤ 203) → (iI s 78 + ((0 : Nat) : Int) = 7) → (iI s 78 = 7 → iI s 79 ≠ 0) → (iI s 79 = 0 → iI s 77 ≤ 202) → CT l s0 D A dT 211 (rkR (24 + 3 * (0) + 1)) [.ref (A 179)] s (fun o t => Bd t ∧ Fm [77, 79, 80, 78] [] s t ∧ FDB B N t ∧ ∃ e, o = .inl (some (.int (Int32.ofInt e))) ∧ rng e ∧ (iI t 78 = iI s 78 ∧ iI s 77 ≤ iI t 77 ∧ (iI t 77 = iI s 77 ∨ iI t 77 ≤ 203) ∧ (iI s 79 ≠ 0 → iI t 79 ≠ 0) ∧ (iI t 79 = 0 → iI t 77 ≤ iI s 75) ∧ (iI s 79 = 0 → iI s 77 < iI t 77) ∧ (e = 0 ∨ e = 1) ∧ PFm B N 6 s t)) := fun {_} I j p0 p1 p2 p3 => k_andsS3 (r := 0) G hT I j p0 p1 p2 p3
    exact ⟨hT, hA, fun {_} I j p0 p1 p2 p3 => k_orsS3 (r := 0) G hA I j p0 p1 p2 p3⟩
  | succ r ih =>
    have hT : ∀ {s : PS}, Bd s → FDB B N s → (iI s 77 ≤ 203) → (iI s 78 + ((r + 1 : Nat) : Int) = 7) → (iI s 78 = 7 → iI s 79 ≠ 0) → (iI s 79 = 0 → iI s 77 ≤ 202) → CT l s0 D A dT 210 (rkR (24 + 3 * (r + 1))) [.ref (A 179)] s (fun o t => Bd t ∧ Fm [77, 79, 80, 78] [] s t ∧ FDB B N t ∧ ∃ e, o = .inl (some (.int (Int32.ofInt e))) ∧ rng e ∧ (iI t 78 = iI s 78 ∧ iI s 77 ≤ iI t 77 ∧ (iI t 77 = iI s 77 ∨ iI t 77 ≤ 203) ∧ (iI s 79 ≠ 0 → iI t 79 ≠ 0) ∧ (iI t 79 = 0 → iI t 77 ≤ iI s 75) ∧ (iI s 79 = 0 → iI s 77 < iI t 77) ∧ (e = 0 ∨ e = 1) ∧ PFm B N 5 s t)) := fun {_} I j p0 p1 p2 p3 => k_testS3 G ih.1 ih.2.2 I j p0 p1 p2 p3
    have hA : ∀ {s : PS}, Bd s → FDB B N s → (iI s 77 ≤ 203) → (iI s 78 + ((r + 1 : Nat) : Int) = 7) → (iI s 78 = 7 → iI s 79 ≠ 0) → (iI s 79 = 0 → iI s 77 ≤ 202) → CT l s0 D A dT 211 (rkR (24 + 3 * (r + 1) + 1)) [.ref (A 179)] s (fun o t => Bd t ∧ Fm [77, 79, 80, 78] [] s t ∧ FDB B N t ∧ ∃ e, o = .inl (some (.int (Int32.ofInt e))) ∧ rng e ∧ (iI t 78 = iI s 78 ∧ iI s 77 ≤ iI t 77 ∧ (iI t 77 = iI s 77 ∨ iI t 77 ≤ 203) ∧ (iI s 79 ≠ 0 → iI t 79 ≠ 0) ∧ (iI t 79 = 0 → iI t 77 ≤ iI s 75) ∧ (iI s 79 = 0 → iI s 77 < iI t 77) ∧ (e = 0 ∨ e = 1) ∧ PFm B N 6 s t)) := fun {_} I j p0 p1 p2 p3 => k_andsS3 (r := r + 1) G hT I j p0 p1 p2 p3
    exact ⟨hT, hA, fun {_} I j p0 p1 p2 p3 => k_orsS3 (r := r + 1) G hA I j p0 p1 p2 p3⟩
set_option maxRecDepth 4000 in
theorem k_clause3 (G : GX l s0 D tys a0 dT) {B : Nat → Int} {N : Int} (I : Bd s) (jFDB : FDB B N s) (p0 : iI s 79 = 0) (p1 : iI s 78 = 0) (p2 : iI s 77 ≤ iI s 75) (p3 : iI s 87 ≤ iI s 86) : CT l s0 D A dT 213 (rmN 213) [.ref (A 179)] s (fun o t => Bd t ∧ Fm [77, 79, 80, 78, 86, 87, 88] [160] s t ∧ FDB B N t ∧ o = .inl none ∧ (iI t 78 = 0 ∧ iI s 77 ≤ iI t 77 ∧ iI t 77 ≤ 203 ∧ (iI t 79 = 0 → iI s 77 < iI t 77 ∧ iI t 77 ≤ iI s 75) ∧ iI t 87 ≤ iI t 86 ∧ (iI t 79 = 0 → iI t 86 = iI s 86 + 1) ∧ CLM B N s t)) := by
  refine ct_of G (by decide) (Nat.le_of_ble_eq_true rfl) (fun k X E hRt hXt q => ?_)
  show WS k 0 [(0, .ref (A 179))] [] _ 0 0
  have F : Fm [77, 79, 80, 78, 86, 87, 88] [160] s s := fm_rf _ _ s
  have hN := jFDB.2.1
  have hW := jFDB.2.2
  have b1 : (0 : Int) ≤ iI s 77 ∧ iI s 77 ≤ 400 := I.1 77
  have b2 : (0 : Int) ≤ iI s 75 ∧ iI s 75 ≤ 200 := I.1 75
  have b3 : (0 : Int) ≤ iI s 79 ∧ iI s 79 ≤ 9 := I.1 79
  have b4 : (0 : Int) ≤ iI s 78 ∧ iI s 78 ≤ 8 := I.1 78
  have b5 : (0 : Int) ≤ iI s 86 ∧ iI s 86 ≤ 8 := I.1 86
  have b6 : (0 : Int) ≤ iI s 87 ∧ iI s 87 ≤ 8 := I.1 87
  have b7 : ((-1) : Int) ≤ iI s 88 ∧ iI s 88 ≤ 200 := I.1 88
  refine z_aload_n X (x := A 179) (show cdA 213 0 = some (.aload_n 0, 1, 0, 0, 0) from rfl) (List.Mem.head _) ?_
  refine z_callV X 179 (rm := rmN 201) (As := []) (st := []) (show cdA 213 1 = some (.invokevirtual 243, 3, 201, 0, 0) from rfl) rfl (by decide) rfl (by rw [E.1, E.2.1, E.2.2.1]; exact k_wordHere3 G I jFDB (by first | exact oq_8bddf595 p2 b2.2 | omega)) ⟨by rw [E.2.2.2]; exact (show (rmN 201).frames + 1 ≤ (rmN 213).frames by decide), by rw [E.2.2.2]; exact (show 8 + (mNL (miB 201) + 11) + (rmN 201).locals ≤ (rmN 213).locals by decide), by rw [E.2.2.2]; exact (show 0 + (rmN 201).cells ≤ (rmN 213).cells by decide), by rw [E.2.2.2]; exact (show 0 + (rmN 201).slots ≤ (rmN 213).slots by decide)⟩ (Nat.le_of_ble_eq_true rfl) (fun vv s8 hq => ?_) (fun ee s8 hq => ?_)
  rotate_left
  · obtain ⟨Is8, Fs8, JFDB_s8, e9, hv, hrs8, hps8⟩ := hq; cases hv
  obtain ⟨Is8, Fs8, JFDB_s8, e9, hv, hrs8, hps8⟩ := hq
  cases hv
  have Gs8 := fm_ts F Fs8 (by decide) (by decide)
  have JFDB_s8 : FDB B N s8 := FDB_fm Fs8 (by decide) jFDB
  have b10 : (0 : Int) ≤ iI s8 77 ∧ iI s8 77 ≤ 400 := Is8.1 77
  have ws8_75 : iI s8 75 = iI s 75 := fm_i Fs8 (by decide)
  have ws8_79 : iI s8 79 = iI s 79 := fm_i Fs8 (by decide)
  have ws8_78 : iI s8 78 = iI s 78 := fm_i Fs8 (by decide)
  have ws8_86 : iI s8 86 = iI s 86 := fm_i Fs8 (by decide)
  have ws8_87 : iI s8 87 = iI s 87 := fm_i Fs8 (by decide)
  have ws8_88 : iI s8 88 = iI s 88 := fm_i Fs8 (by decide)
  show WS k 4 [(0, .ref (A 179))] [.int (Int32.ofInt e9)] (Wd A dT s8) 0 0
  have hwv : e9 = whV B N (sk B N (iI s 77)) := by rw [hps8.2.1, hps8.1]
  have hb0 : iI s8 77 = (sk B N (iI s 77)) := hps8.1
  refine z_store_n X (lv' := [(1, .int (Int32.ofInt e9)), (0, .ref (A 179))]) (show cdA 213 4 = some (.istore_n 1, 1, 0, 0, 0) from rfl) (by decide) (fun _ h => h) ?_
  refine z_load_n X (x := e9) (show cdA 213 5 = some (.iload_n 1, 1, 0, 0, 0) from rfl) (List.Mem.head _) ?_
  refine z_bipush X (show cdA 213 6 = some (.bipush 12, 2, 0, 0, 12) from rfl) ?_
  refine z_bipush X (show cdA 213 8 = some (.bipush 15, 2, 0, 0, 15) from rfl) ?_
  refine z_const X (show cdA 213 10 = some (.iconst 1, 1, 0, 0, 0) from rfl) ?_
  refine z_const X (show cdA 213 11 = some (.iconst 4, 1, 0, 0, 0) from rfl) ?_
  refine z_const X (show cdA 213 12 = some (.iconst 0, 1, 0, 0, 0) from rfl) ?_
  refine z_const X (show cdA 213 13 = some (.iconst 0, 1, 0, 0, 0) from rfl) ?_
  refine z_callS X (rm := rmN 202) (As := [.int (Int32.ofInt 12), .int (Int32.ofInt 15), .int (Int32.ofInt 1), .int (Int32.ofInt 4), .int (Int32.ofInt 0), .int (Int32.ofInt 0)]) (st := [.int (Int32.ofInt e9)]) (show cdA 213 14 = some (.invokestatic 247, 3, 202, 1, 0) from rfl) rfl (by rw [E.1, E.2.1, E.2.2.1]; exact k_word3 G Is8 (by first | exact ⟨by decide, by decide⟩ | omega) (by first | exact ⟨by decide, by decide⟩ | omega) (by first | exact ⟨by decide, by decide⟩ | omega) (by first | exact ⟨by decide, by decide⟩ | omega) (by first | exact ⟨by decide, by decide⟩ | omega) (by first | exact ⟨by decide, by decide⟩ | omega)) ⟨by rw [E.2.2.2]; exact (show (rmN 202).frames + 1 ≤ (rmN 213).frames by decide), by rw [E.2.2.2]; exact (show 8 + (mNL (miB 202) + 11) + (rmN 202).locals ≤ (rmN 213).locals by decide), by rw [E.2.2.2]; exact (show 0 + (rmN 202).cells ≤ (rmN 213).cells by decide), by rw [E.2.2.2]; exact (show 0 + (rmN 202).slots ≤ (rmN 213).slots by decide)⟩ (Nat.le_of_ble_eq_true rfl) (fun vv s11 hq => ?_) (fun ee s11 hq => ?_)
  rotate_left
  · obtain ⟨rfl, e12, hv, hrs11, hps11⟩ := hq; cases hv
  obtain ⟨rfl, e12, hv, hrs11, hps11⟩ := hq
  cases hv
  show WS k 17 [(1, .int (Int32.ofInt e9)), (0, .ref (A 179))] [.int (Int32.ofInt e12), .int (Int32.ofInt e9)] (Wd A dT s8) 0 0
  have hk13 : e12 = 247162 := by rw [hps11.2]; decide
  have N14 : ∀ e15 : Int, (((e9 ≠ e12) ∧ e15 = 0) ∨ ((e9 = e12) ∧ e15 = 1)) → WS k 25 [(1, .int (Int32.ofInt e9)), (0, .ref (A 179))] [.int (Int32.ofInt e15)] (Wd A dT s8) 0 0 := by
    intro e15 he15
    have re15 : 0 ≤ e15 ∧ e15 ≤ 1 := by omega
    refine z_store_n X (lv' := [(2, .int (Int32.ofInt e15)), (1, .int (Int32.ofInt e9)), (0, .ref (A 179))]) (show cdA 213 25 = some (.istore_n 2, 1, 0, 0, 0) from rfl) (by decide) (fun _ h => h) ?_
    refine z_load_n X (x := e9) (show cdA 213 26 = some (.iload_n 1, 1, 0, 0, 0) from rfl) (List.Mem.tail _ (List.Mem.head _)) ?_
    refine z_bipush X (show cdA 213 27 = some (.bipush 10, 2, 0, 0, 10) from rfl) ?_
    refine z_bipush X (show cdA 213 29 = some (.bipush 15, 2, 0, 0, 15) from rfl) ?_
    refine z_bipush X (show cdA 213 31 = some (.bipush 9, 2, 0, 0, 9) from rfl) ?_
    refine z_bipush X (show cdA 213 33 = some (.bipush 14, 2, 0, 0, 14) from rfl) ?_
    refine z_const X (show cdA 213 35 = some (.iconst 0, 1, 0, 0, 0) from rfl) ?_
    refine z_const X (show cdA 213 36 = some (.iconst 0, 1, 0, 0, 0) from rfl) ?_
    refine z_callS X (rm := rmN 202) (As := [.int (Int32.ofInt 10), .int (Int32.ofInt 15), .int (Int32.ofInt 9), .int (Int32.ofInt 14), .int (Int32.ofInt 0), .int (Int32.ofInt 0)]) (st := [.int (Int32.ofInt e9)]) (show cdA 213 37 = some (.invokestatic 247, 3, 202, 1, 0) from rfl) rfl (by rw [E.1, E.2.1, E.2.2.1]; exact k_word3 G Is8 (by first | exact ⟨by decide, by decide⟩ | omega) (by first | exact ⟨by decide, by decide⟩ | omega) (by first | exact ⟨by decide, by decide⟩ | omega) (by first | exact ⟨by decide, by decide⟩ | omega) (by first | exact ⟨by decide, by decide⟩ | omega) (by first | exact ⟨by decide, by decide⟩ | omega)) ⟨by rw [E.2.2.2]; exact (show (rmN 202).frames + 1 ≤ (rmN 213).frames by decide), by rw [E.2.2.2]; exact (show 8 + (mNL (miB 202) + 11) + (rmN 202).locals ≤ (rmN 213).locals by decide), by rw [E.2.2.2]; exact (show 0 + (rmN 202).cells ≤ (rmN 213).cells by decide), by rw [E.2.2.2]; exact (show 0 + (rmN 202).slots ≤ (rmN 213).slots by decide)⟩ (Nat.le_of_ble_eq_true rfl) (fun vv s16 hq => ?_) (fun ee s16 hq => ?_)
    rotate_left
    · obtain ⟨rfl, e17, hv, hrs16, hps16⟩ := hq; cases hv
    obtain ⟨rfl, e17, hv, hrs16, hps16⟩ := hq
    cases hv
    show WS k 40 [(2, .int (Int32.ofInt e15)), (1, .int (Int32.ofInt e9)), (0, .ref (A 179))] [.int (Int32.ofInt e17), .int (Int32.ofInt e9)] (Wd A dT s8) 0 0
    have hk18 : e17 = 208022 := by rw [hps16.2]; decide
    have N19 : ∀ e20 : Int, (((e9 ≠ e17) ∧ e20 = 0) ∨ ((e9 = e17) ∧ e20 = 1)) → WS k 48 [(2, .int (Int32.ofInt e15)), (1, .int (Int32.ofInt e9)), (0, .ref (A 179))] [.int (Int32.ofInt e20)] (Wd A dT s8) 0 0 := by
      intro e20 he20
      have re20 : 0 ≤ e20 ∧ e20 ≤ 1 := by omega
      refine z_store_n X (lv' := [(3, .int (Int32.ofInt e20)), (2, .int (Int32.ofInt e15)), (1, .int (Int32.ofInt e9)), (0, .ref (A 179))]) (show cdA 213 48 = some (.istore_n 3, 1, 0, 0, 0) from rfl) (by decide) (fun _ h => h) ?_
      refine z_load_n X (x := e15) (show cdA 213 49 = some (.iload_n 2, 1, 0, 0, 0) from rfl) (List.Mem.tail _ (List.Mem.head _)) ?_
      refine z_if_ne X (t := 69) (show cdA 213 50 = some (.ifCond .ne 19, 3, 1, 0, 0) from rfl) (by decide) ⟨by first | exact oq_fa4e5087 re15.1 | omega, by first | exact oq_22e1e6b0 re15.2 | omega⟩ (fun g21 => ?_) (fun g21 => ?_)
      ·
        refine z_aload_n X (x := A 179) (show cdA 213 69 = some (.aload_n 0, 1, 0, 0, 0) from rfl) (List.Mem.tail _ (List.Mem.tail _ (List.Mem.tail _ (List.Mem.head _)))) ?_
        refine z_getI X 179 (show cdA 213 70 = some (.getfield 282, 3, 12, 16, 0) from rfl) (by decide) rfl rfl ?_
        have b22 : (0 : Int) ≤ iI s8 86 ∧ iI s8 86 ≤ 8 := Is8.1 86
        refine z_bipush X (show cdA 213 73 = some (.bipush 8, 2, 0, 0, 8) from rfl) ?_
        refine z_icmp_ne X (t := 87) (show cdA 213 75 = some (.if_icmp .ne 12, 3, 1, 0, 0) from rfl) (by decide) (rng_to _) (by decide) (fun g23 => ?_) (fun g23 => ?_)
        ·
          refine z_aload_n X (x := A 179) (show cdA 213 87 = some (.aload_n 0, 1, 0, 0, 0) from rfl) (List.Mem.tail _ (List.Mem.tail _ (List.Mem.tail _ (List.Mem.head _)))) ?_
          refine z_getI X 179 (show cdA 213 88 = some (.getfield 191, 3, 12, 6, 0) from rfl) (by decide) rfl rfl ?_
          have b24 : (0 : Int) ≤ iI s8 79 ∧ iI s8 79 ≤ 9 := Is8.1 79
          refine z_if_eq X (t := 95) (show cdA 213 91 = some (.ifCond .eq 4, 3, 0, 0, 0) from rfl) (by decide) (rng_to _) (fun g25 => ?_) (fun g25 => ?_)
          ·
            refine z_aload_n X (x := A 179) (show cdA 213 95 = some (.aload_n 0, 1, 0, 0, 0) from rfl) (List.Mem.tail _ (List.Mem.tail _ (List.Mem.tail _ (List.Mem.head _)))) ?_
            refine z_callV X 179 (rm := rmN 203) (As := []) (st := []) (show cdA 213 96 = some (.invokevirtual 254, 3, 203, 0, 0) from rfl) rfl (by decide) rfl (by rw [E.1, E.2.1, E.2.2.1]; exact k_skipWord3 G Is8 JFDB_s8 (by omega)) ⟨by rw [E.2.2.2]; exact (show (rmN 203).frames + 1 ≤ (rmN 213).frames by decide), by rw [E.2.2.2]; exact (show 8 + (mNL (miB 203) + 11) + (rmN 203).locals ≤ (rmN 213).locals by decide), by rw [E.2.2.2]; exact (show 0 + (rmN 203).cells ≤ (rmN 213).cells by decide), by rw [E.2.2.2]; exact (show 0 + (rmN 203).slots ≤ (rmN 213).slots by decide)⟩ (Nat.le_of_ble_eq_true rfl) (fun vv s26 hq => ?_) (fun ee s26 hq => ?_)
            rotate_left
            · obtain ⟨Is26, Fs26, JFDB_s26, hv, hps26⟩ := hq; cases hv
            obtain ⟨Is26, Fs26, JFDB_s26, hv, hps26⟩ := hq
            cases hv
            have Gs26 := fm_ts Gs8 Fs26 (by decide) (by decide)
            have JFDB_s26 : FDB B N s26 := FDB_fm Fs26 (by decide) JFDB_s8
            have b28 : (0 : Int) ≤ iI s26 77 ∧ iI s26 77 ≤ 400 := Is26.1 77
            have ws26_75 : iI s26 75 = iI s8 75 := fm_i Fs26 (by decide)
            have ws26_79 : iI s26 79 = iI s8 79 := fm_i Fs26 (by decide)
            have ws26_78 : iI s26 78 = iI s8 78 := fm_i Fs26 (by decide)
            have ws26_86 : iI s26 86 = iI s8 86 := fm_i Fs26 (by decide)
            have ws26_87 : iI s26 87 = iI s8 87 := fm_i Fs26 (by decide)
            have ws26_88 : iI s26 88 = iI s8 88 := fm_i Fs26 (by decide)
            show WS k 99 [(3, .int (Int32.ofInt e20)), (2, .int (Int32.ofInt e15)), (1, .int (Int32.ofInt e9)), (0, .ref (A 179))] [] (Wd A dT s26) 0 0
            have hsw : iI s26 77 = wdE B N (sk B N (iI s 77)) := by rw [hps26.1, show iI s8 77 = (sk B N (iI s 77)) by omega]
            have hwz := wh_let (show whV B N (sk B N (iI s 77)) ≠ 0 by omega)
            have hwg := wd_gt hwz.1 hwz.2.1 hwz.2.2
            refine z_load_n X (x := e15) (show cdA 213 99 = some (.iload_n 2, 1, 0, 0, 0) from rfl) (List.Mem.tail _ (List.Mem.head _)) ?_
            refine z_if_eq X (t := 119) (show cdA 213 100 = some (.ifCond .eq 19, 3, 0, 0, 0) from rfl) (by decide) ⟨by first | exact oq_fa4e5087 re15.1 | omega, by first | exact oq_22e1e6b0 re15.2 | omega⟩ (fun g29 => ?_) (fun g29 => ?_)
            ·
              exfalso
              omega
            ·
              refine z_aload_n X (x := A 179) (show cdA 213 103 = some (.aload_n 0, 1, 0, 0, 0) from rfl) (List.Mem.tail _ (List.Mem.tail _ (List.Mem.tail _ (List.Mem.head _)))) ?_
              refine z_aload_n X (x := A 179) (show cdA 213 104 = some (.aload_n 0, 1, 0, 0, 0) from rfl) (List.Mem.tail _ (List.Mem.tail _ (List.Mem.tail _ (List.Mem.head _)))) ?_
              refine z_getI X 179 (show cdA 213 105 = some (.getfield 184, 3, 12, 4, 0) from rfl) (by decide) rfl rfl ?_
              have b30 : (0 : Int) ≤ iI s26 77 ∧ iI s26 77 ≤ 400 := Is26.1 77
              refine s_putI X 179 (show cdA 213 108 = some (.putfield 285, 3, 12, 18, 0) from rfl) (by decide) rfl rfl (by decide) rfl rfl rfl ?_
              obtain ⟨s31, hs31⟩ : ∃ x0, x0 = uI s26 88 (Int32.ofInt (iI s26 77)) := ⟨_, rfl⟩
              rw [← hs31]
              have Is31 : Bd s31 := by rw [hs31]; exact bd_I Is26 (show ((-1) : Int) ≤ (iI s26 77) ∧ (iI s26 77) ≤ 200 by first | exact ⟨oq_ca54ea22 b30.1, by omega⟩ | omega) (rng_to _)
              have Fs31 := fm_I (x := Int32.ofInt (iI s26 77)) Gs26 (show 88 ∈ _ by decide)
              rw [← hs31] at Fs31
              have vs31 : iI s31 88 = (iI s26 77) := by rw [hs31]; exact iI_u (rng_to _)
              have ws31_77 : iI s31 77 = iI s26 77 := by rw [hs31]; rfl
              have ws31_75 : iI s31 75 = iI s26 75 := by rw [hs31]; rfl
              have ws31_79 : iI s31 79 = iI s26 79 := by rw [hs31]; rfl
              have ws31_78 : iI s31 78 = iI s26 78 := by rw [hs31]; rfl
              have ws31_86 : iI s31 86 = iI s26 86 := by rw [hs31]; rfl
              have ws31_87 : iI s31 87 = iI s26 87 := by rw [hs31]; rfl
              have fs31 : Fm [88] [] s26 s31 := by rw [hs31]; exact fm_I (fm_rf _ _ _) (show 88 ∈ _ by decide)
              have JFDB_s31 : FDB B N s31 := FDB_fm fs31 (by decide) JFDB_s26
              refine z_aload_n X (x := A 179) (show cdA 213 111 = some (.aload_n 0, 1, 0, 0, 0) from rfl) (List.Mem.tail _ (List.Mem.tail _ (List.Mem.tail _ (List.Mem.head _)))) ?_
              refine z_callV X 179 (rm := (rkR (3 * (7) + 2))) (As := []) (st := []) (show cdA 213 112 = some (.invokevirtual 260, 3, 209, 0, 0) from rfl) rfl (by decide) rfl (by rw [E.1, E.2.1, E.2.2.1]; exact (k_sumr3 G (B := B) (N := N) 7).2.2 Is31 JFDB_s31 (by omega) (by first | exact oq_250cf5e6 ws31_78 ws26_78 ws8_78 p1 b4.1 | omega) (by first | exact oq_9b88a94f ws31_78 ws26_78 ws8_78 p1 | omega)) ⟨by rw [E.2.2.2]; exact (show (12 + (3 * (7) + 2)) + 1 ≤ 60 from oq_ac0a0b68), by rw [E.2.2.2]; exact (show 8 + (4 + 11) + (500 + 45 * (3 * (7) + 2)) ≤ 2637 from oq_3899f1d8), by rw [E.2.2.2]; exact Nat.le_refl 0, by rw [E.2.2.2]; exact Nat.le_refl 0⟩ (Nat.le_of_ble_eq_true rfl) (fun vv s32 hq => ?_) (fun ee s32 hq => ?_)
              rotate_left
              · obtain ⟨Is32, Fs32, JFDB_s32, e33, hv, hrs32, hps32⟩ := hq; cases hv
              obtain ⟨Is32, Fs32, JFDB_s32, e33, hv, hrs32, hps32⟩ := hq
              cases hv
              have Gs32 := fm_ts Fs31 Fs32 (by decide) (by decide)
              have JFDB_s32 : FDB B N s32 := FDB_fm Fs32 (by decide) JFDB_s31
              have b34 : (0 : Int) ≤ iI s32 77 ∧ iI s32 77 ≤ 400 := Is32.1 77
              have ws32_75 : iI s32 75 = iI s31 75 := fm_i Fs32 (by decide)
              have b35 : (0 : Int) ≤ iI s32 79 ∧ iI s32 79 ≤ 9 := Is32.1 79
              have b36 : (0 : Int) ≤ iI s32 78 ∧ iI s32 78 ≤ 8 := Is32.1 78
              have ws32_86 : iI s32 86 = iI s31 86 := fm_i Fs32 (by decide)
              have ws32_87 : iI s32 87 = iI s31 87 := fm_i Fs32 (by decide)
              have ws32_88 : iI s32 88 = iI s31 88 := fm_i Fs32 (by decide)
              show WS k 115 [(3, .int (Int32.ofInt e20)), (2, .int (Int32.ofInt e15)), (1, .int (Int32.ofInt e9)), (0, .ref (A 179))] [.int (Int32.ofInt e33)] (Wd A dT s32) 0 0
              have hou : OUm B N 3 (sk B N (wdE B N (sk B N (iI s 77)))) 0 s32 := by have h := pf_ou hps32.2.2.2.2.2 (by omega); rw [show iI s31 77 = wdE B N (sk B N (iI s 77)) by omega, show iI s31 78 = 0 by omega] at h; exact h
              refine w_pop X.1 (ax_d X (show cdA 213 115 = some (.pop, 1, 0, 0, 0) from rfl)) rfl ?_
              refine z_goto X (t := 147) (show cdA 213 116 = some (.goto 31, 3, 0, 0, 0) from rfl) (by decide) ?_
              refine z_aload_n X (x := A 179) (show cdA 213 147 = some (.aload_n 0, 1, 0, 0, 0) from rfl) (List.Mem.tail _ (List.Mem.tail _ (List.Mem.tail _ (List.Mem.head _)))) ?_
              refine z_getI X 179 (show cdA 213 148 = some (.getfield 191, 3, 12, 6, 0) from rfl) (by decide) rfl rfl ?_
              have b37 : (0 : Int) ≤ iI s32 79 ∧ iI s32 79 ≤ 9 := Is32.1 79
              refine z_if_ne X (t := 160) (show cdA 213 151 = some (.ifCond .ne 9, 3, 1, 0, 0) from rfl) (by decide) (rng_to _) (fun g38 => ?_) (fun g38 => ?_)
              ·
                refine z_aload_n X (x := A 179) (show cdA 213 160 = some (.aload_n 0, 1, 0, 0, 0) from rfl) (List.Mem.tail _ (List.Mem.tail _ (List.Mem.tail _ (List.Mem.head _)))) ?_
                refine w_dup X.1 (ax_d X (show cdA 213 161 = some (.dup, 1, 0, 0, 0) from rfl)) rfl ?_
                refine z_getI X 179 (show cdA 213 162 = some (.getfield 282, 3, 12, 16, 0) from rfl) (by decide) rfl rfl ?_
                have b39 : (0 : Int) ≤ iI s32 86 ∧ iI s32 86 ≤ 8 := Is32.1 86
                refine z_const X (show cdA 213 165 = some (.iconst 1, 1, 0, 0, 0) from rfl) ?_
                refine z_add X (show cdA 213 166 = some (.iadd, 1, 0, 0, 0) from rfl) ?_
                refine s_putI X 179 (show cdA 213 167 = some (.putfield 282, 3, 12, 16, 0) from rfl) (by decide) rfl rfl (by decide) rfl rfl rfl ?_
                obtain ⟨s40, hs40⟩ : ∃ x0, x0 = uI s32 86 (Int32.ofInt ((iI s32 86) + 1)) := ⟨_, rfl⟩
                rw [← hs40]
                have Is40 : Bd s40 := by rw [hs40]; exact bd_I Is32 (show (0 : Int) ≤ ((iI s32 86) + 1) ∧ ((iI s32 86) + 1) ≤ 8 by first | exact ⟨oq_54f49eb5 b39.1, oq_fa715ff6 ws32_86 ws31_86 ws26_86 g23 b22.2⟩ | omega) ⟨by first | exact oq_74de1e16 b39.1 | omega, by first | exact oq_3762dfb5 b39.2 | omega⟩
                have Fs40 := fm_I (x := Int32.ofInt ((iI s32 86) + 1)) Gs32 (show 86 ∈ _ by decide)
                rw [← hs40] at Fs40
                have vs40 : iI s40 86 = ((iI s32 86) + 1) := by rw [hs40]; exact iI_u ⟨by first | exact oq_74de1e16 b39.1 | omega, by first | exact oq_3762dfb5 b39.2 | omega⟩
                have ws40_77 : iI s40 77 = iI s32 77 := by rw [hs40]; rfl
                have ws40_75 : iI s40 75 = iI s32 75 := by rw [hs40]; rfl
                have ws40_79 : iI s40 79 = iI s32 79 := by rw [hs40]; rfl
                have ws40_78 : iI s40 78 = iI s32 78 := by rw [hs40]; rfl
                have ws40_87 : iI s40 87 = iI s32 87 := by rw [hs40]; rfl
                have ws40_88 : iI s40 88 = iI s32 88 := by rw [hs40]; rfl
                have fs40 : Fm [86] [] s32 s40 := by rw [hs40]; exact fm_I (fm_rf _ _ _) (show 86 ∈ _ by decide)
                have JFDB_s40 : FDB B N s40 := FDB_fm fs40 (by decide) JFDB_s32
                exact w_vret X.1 q hRt (ax_d X (show cdA 213 170 = some (.return_, 1, 0, 0, 0) from rfl)) (Nat.zero_le _) (Nat.zero_le _) ⟨_, rfl, Is40, Fs40, JFDB_s40, rfl, ⟨by first | exact oq_4c505d4e ws40_78 b36.1 hps32.1 ws31_78 ws26_78 ws8_78 p1 | omega, by first | exact oq_da110da9 ws40_77 hps8.2.2.1 hps32.2.1 ws31_77 hps26.2.1 | omega, by omega, by first | exact oq_971796bb ws40_79 g38 b37.1 | omega, by first | exact oq_073a94d0 ws40_87 vs40 ws32_87 ws32_86 ws31_87 ws31_86 ws26_87 ws26_86 ws8_87 ws8_86 p3 | omega, by first | exact oq_314a3869 ws40_79 g38 b37.1 | omega, clm_of (c := s40) rfl (by exact Or.inl ⟨by omega, rfl⟩) (by omega) hou (Or.inl ⟨by omega, by omega⟩)⟩⟩
              ·
                refine z_aload_n X (x := A 179) (show cdA 213 154 = some (.aload_n 0, 1, 0, 0, 0) from rfl) (List.Mem.tail _ (List.Mem.tail _ (List.Mem.tail _ (List.Mem.head _)))) ?_
                refine z_bipush X (show cdA 213 155 = some (.bipush 59, 2, 0, 0, 59) from rfl) ?_
                refine z_callV X 179 (rm := rmN 204) (As := [.int (Int32.ofInt 59)]) (st := []) (show cdA 213 157 = some (.invokevirtual 263, 3, 204, 0, 0) from rfl) rfl (by decide) rfl (by rw [E.1, E.2.1, E.2.2.1]; exact k_sign3 G Is32 JFDB_s32 (by first | exact ⟨by decide, by decide⟩ | omega) (by first | exact oq_33e15320 g38 hps32.2.2.2.2.1 ws31_75 ws26_75 ws8_75 b2.2 | omega)) ⟨by rw [E.2.2.2]; exact (show (rmN 204).frames + 1 ≤ (rmN 213).frames by decide), by rw [E.2.2.2]; exact (show 8 + (mNL (miB 204) + 11) + (rmN 204).locals ≤ (rmN 213).locals by decide), by rw [E.2.2.2]; exact (show 0 + (rmN 204).cells ≤ (rmN 213).cells by decide), by rw [E.2.2.2]; exact (show 0 + (rmN 204).slots ≤ (rmN 213).slots by decide)⟩ (Nat.le_of_ble_eq_true rfl) (fun vv s41 hq => ?_) (fun ee s41 hq => ?_)
                rotate_left
                · obtain ⟨Is41, Fs41, JFDB_s41, hv, hps41⟩ := hq; cases hv
                obtain ⟨Is41, Fs41, JFDB_s41, hv, hps41⟩ := hq
                cases hv
                have Gs41 := fm_ts Gs32 Fs41 (by decide) (by decide)
                have JFDB_s41 : FDB B N s41 := FDB_fm Fs41 (by decide) JFDB_s32
                have b43 : (0 : Int) ≤ iI s41 77 ∧ iI s41 77 ≤ 400 := Is41.1 77
                have ws41_75 : iI s41 75 = iI s32 75 := fm_i Fs41 (by decide)
                have b44 : (0 : Int) ≤ iI s41 79 ∧ iI s41 79 ≤ 9 := Is41.1 79
                have ws41_78 : iI s41 78 = iI s32 78 := fm_i Fs41 (by decide)
                have ws41_86 : iI s41 86 = iI s32 86 := fm_i Fs41 (by decide)
                have ws41_87 : iI s41 87 = iI s32 87 := fm_i Fs41 (by decide)
                have ws41_88 : iI s41 88 = iI s32 88 := fm_i Fs41 (by decide)
                have hsg : iI s41 79 = 0 → iI s41 77 ≤ N := fun h => sg_le hps41.1 h
                show WS k 160 [(3, .int (Int32.ofInt e20)), (2, .int (Int32.ofInt e15)), (1, .int (Int32.ofInt e9)), (0, .ref (A 179))] [] (Wd A dT s41) 0 0
                refine z_aload_n X (x := A 179) (show cdA 213 160 = some (.aload_n 0, 1, 0, 0, 0) from rfl) (List.Mem.tail _ (List.Mem.tail _ (List.Mem.tail _ (List.Mem.head _)))) ?_
                refine w_dup X.1 (ax_d X (show cdA 213 161 = some (.dup, 1, 0, 0, 0) from rfl)) rfl ?_
                refine z_getI X 179 (show cdA 213 162 = some (.getfield 282, 3, 12, 16, 0) from rfl) (by decide) rfl rfl ?_
                have b45 : (0 : Int) ≤ iI s41 86 ∧ iI s41 86 ≤ 8 := Is41.1 86
                refine z_const X (show cdA 213 165 = some (.iconst 1, 1, 0, 0, 0) from rfl) ?_
                refine z_add X (show cdA 213 166 = some (.iadd, 1, 0, 0, 0) from rfl) ?_
                refine s_putI X 179 (show cdA 213 167 = some (.putfield 282, 3, 12, 16, 0) from rfl) (by decide) rfl rfl (by decide) rfl rfl rfl ?_
                obtain ⟨s46, hs46⟩ : ∃ x0, x0 = uI s41 86 (Int32.ofInt ((iI s41 86) + 1)) := ⟨_, rfl⟩
                rw [← hs46]
                have Is46 : Bd s46 := by rw [hs46]; exact bd_I Is41 (show (0 : Int) ≤ ((iI s41 86) + 1) ∧ ((iI s41 86) + 1) ≤ 8 by first | exact ⟨oq_54f49eb5 b45.1, oq_36461835 ws41_86 ws32_86 ws31_86 ws26_86 g23 b22.2⟩ | omega) ⟨by first | exact oq_74de1e16 b45.1 | omega, by first | exact oq_3762dfb5 b45.2 | omega⟩
                have Fs46 := fm_I (x := Int32.ofInt ((iI s41 86) + 1)) Gs41 (show 86 ∈ _ by decide)
                rw [← hs46] at Fs46
                have vs46 : iI s46 86 = ((iI s41 86) + 1) := by rw [hs46]; exact iI_u ⟨by first | exact oq_74de1e16 b45.1 | omega, by first | exact oq_3762dfb5 b45.2 | omega⟩
                have ws46_77 : iI s46 77 = iI s41 77 := by rw [hs46]; rfl
                have ws46_75 : iI s46 75 = iI s41 75 := by rw [hs46]; rfl
                have ws46_79 : iI s46 79 = iI s41 79 := by rw [hs46]; rfl
                have ws46_78 : iI s46 78 = iI s41 78 := by rw [hs46]; rfl
                have ws46_87 : iI s46 87 = iI s41 87 := by rw [hs46]; rfl
                have ws46_88 : iI s46 88 = iI s41 88 := by rw [hs46]; rfl
                have fs46 : Fm [86] [] s41 s46 := by rw [hs46]; exact fm_I (fm_rf _ _ _) (show 86 ∈ _ by decide)
                have JFDB_s46 : FDB B N s46 := FDB_fm fs46 (by decide) JFDB_s41
                exact w_vret X.1 q hRt (ax_d X (show cdA 213 170 = some (.return_, 1, 0, 0, 0) from rfl)) (Nat.zero_le _) (Nat.zero_le _) ⟨_, rfl, Is46, Fs46, JFDB_s46, rfl, ⟨by first | exact oq_9f8cc8f6 ws46_78 ws41_78 b36.1 hps32.1 ws31_78 ws26_78 ws8_78 p1 | omega, by first | exact oq_cf7a6331 ws46_77 hps41.2.1 hps32.2.1 ws31_77 hps26.2.1 hps8.2.2.1 | omega, by omega, by omega, by first | exact oq_7abd3e11 ws46_87 vs46 ws41_87 ws41_86 ws32_87 ws32_86 ws31_87 ws31_86 ws26_87 ws26_86 ws8_87 ws8_86 p3 | omega, by first | exact oq_0a3a365b vs46 ws41_86 ws32_86 ws31_86 ws26_86 ws8_86 | omega, clm_of (c := s41) rfl (by exact Or.inl ⟨by omega, rfl⟩) (by omega) hou (Or.inr ⟨by omega, hps41.1, by omega, by omega⟩)⟩⟩
          ·
            exfalso
            omega
        ·
          refine z_aload_n X (x := A 179) (show cdA 213 78 = some (.aload_n 0, 1, 0, 0, 0) from rfl) (List.Mem.tail _ (List.Mem.tail _ (List.Mem.tail _ (List.Mem.head _)))) ?_
          refine z_const X (show cdA 213 79 = some (.iconst 3, 1, 0, 0, 0) from rfl) ?_
          refine z_aload_n X (x := A 179) (show cdA 213 80 = some (.aload_n 0, 1, 0, 0, 0) from rfl) (List.Mem.tail _ (List.Mem.tail _ (List.Mem.tail _ (List.Mem.head _)))) ?_
          refine z_getI X 179 (show cdA 213 81 = some (.getfield 184, 3, 12, 4, 0) from rfl) (by decide) rfl rfl ?_
          have b47 : (0 : Int) ≤ iI s8 77 ∧ iI s8 77 ≤ 400 := Is8.1 77
          refine z_callV X 179 (rm := rmN 194) (As := [.int (Int32.ofInt 3), .int (Int32.ofInt (iI s8 77))]) (st := []) (show cdA 213 84 = some (.invokevirtual 204, 3, 194, 0, 0) from rfl) rfl (by decide) rfl (by rw [E.1, E.2.1, E.2.2.1]; exact k_wrong3 G Is8 (by first | exact ⟨by decide, by decide⟩ | omega) (by first | exact ⟨oq_ca54ea22 b47.1, b47.2⟩ | omega)) ⟨by rw [E.2.2.2]; exact (show (rmN 194).frames + 1 ≤ (rmN 213).frames by decide), by rw [E.2.2.2]; exact (show 8 + (mNL (miB 194) + 11) + (rmN 194).locals ≤ (rmN 213).locals by decide), by rw [E.2.2.2]; exact (show 0 + (rmN 194).cells ≤ (rmN 213).cells by decide), by rw [E.2.2.2]; exact (show 0 + (rmN 194).slots ≤ (rmN 213).slots by decide)⟩ (Nat.le_of_ble_eq_true rfl) (fun vv s48 hq => ?_) (fun ee s48 hq => ?_)
          rotate_left
          · obtain ⟨Is48, Fs48, hv, hps48⟩ := hq; cases hv
          obtain ⟨Is48, Fs48, hv, hps48⟩ := hq
          cases hv
          have Gs48 := fm_ts Gs8 Fs48 (by decide) (by decide)
          have JFDB_s48 : FDB B N s48 := FDB_fm Fs48 (by decide) JFDB_s8
          have ws48_77 : iI s48 77 = iI s8 77 := fm_i Fs48 (by decide)
          have ws48_75 : iI s48 75 = iI s8 75 := fm_i Fs48 (by decide)
          have b50 : (0 : Int) ≤ iI s48 79 ∧ iI s48 79 ≤ 9 := Is48.1 79
          have ws48_78 : iI s48 78 = iI s8 78 := fm_i Fs48 (by decide)
          have ws48_86 : iI s48 86 = iI s8 86 := fm_i Fs48 (by decide)
          have ws48_87 : iI s48 87 = iI s8 87 := fm_i Fs48 (by decide)
          have ws48_88 : iI s48 88 = iI s8 88 := fm_i Fs48 (by decide)
          show WS k 87 [(3, .int (Int32.ofInt e20)), (2, .int (Int32.ofInt e15)), (1, .int (Int32.ofInt e9)), (0, .ref (A 179))] [] (Wd A dT s48) 0 0
          refine z_aload_n X (x := A 179) (show cdA 213 87 = some (.aload_n 0, 1, 0, 0, 0) from rfl) (List.Mem.tail _ (List.Mem.tail _ (List.Mem.tail _ (List.Mem.head _)))) ?_
          refine z_getI X 179 (show cdA 213 88 = some (.getfield 191, 3, 12, 6, 0) from rfl) (by decide) rfl rfl ?_
          have b51 : (0 : Int) ≤ iI s48 79 ∧ iI s48 79 ≤ 9 := Is48.1 79
          refine z_if_eq X (t := 95) (show cdA 213 91 = some (.ifCond .eq 4, 3, 0, 0, 0) from rfl) (by decide) (rng_to _) (fun g52 => ?_) (fun g52 => ?_)
          ·
            exfalso
            omega
          ·
            exact w_vret X.1 q hRt (ax_d X (show cdA 213 94 = some (.return_, 1, 0, 0, 0) from rfl)) (Nat.zero_le _) (Nat.zero_le _) ⟨_, rfl, Is48, Gs48, JFDB_s48, rfl, ⟨by first | exact oq_7fe879e0 ws48_78 ws8_78 p1 b4.1 | omega, by first | exact oq_9272904e ws48_77 hps8.2.2.1 | omega, by omega, by first | exact oq_f7664523 g52 b51.1 | omega, by first | exact oq_ea1d993c ws48_86 ws48_87 ws8_87 b6.2 g23 | omega, by first | exact oq_2dbfa935 g52 b51.1 | omega, clm_3 (by omega) (by omega) (by omega)⟩⟩
      ·
        refine z_load_n X (x := e20) (show cdA 213 53 = some (.iload_n 3, 1, 0, 0, 0) from rfl) (List.Mem.head _) ?_
        refine z_if_ne X (t := 69) (show cdA 213 54 = some (.ifCond .ne 15, 3, 1, 0, 0) from rfl) (by decide) ⟨by first | exact oq_fa4e5087 re20.1 | omega, by first | exact oq_22e1e6b0 re20.2 | omega⟩ (fun g53 => ?_) (fun g53 => ?_)
        ·
          refine z_aload_n X (x := A 179) (show cdA 213 69 = some (.aload_n 0, 1, 0, 0, 0) from rfl) (List.Mem.tail _ (List.Mem.tail _ (List.Mem.tail _ (List.Mem.head _)))) ?_
          refine z_getI X 179 (show cdA 213 70 = some (.getfield 282, 3, 12, 16, 0) from rfl) (by decide) rfl rfl ?_
          have b54 : (0 : Int) ≤ iI s8 86 ∧ iI s8 86 ≤ 8 := Is8.1 86
          refine z_bipush X (show cdA 213 73 = some (.bipush 8, 2, 0, 0, 8) from rfl) ?_
          refine z_icmp_ne X (t := 87) (show cdA 213 75 = some (.if_icmp .ne 12, 3, 1, 0, 0) from rfl) (by decide) (rng_to _) (by decide) (fun g55 => ?_) (fun g55 => ?_)
          ·
            refine z_aload_n X (x := A 179) (show cdA 213 87 = some (.aload_n 0, 1, 0, 0, 0) from rfl) (List.Mem.tail _ (List.Mem.tail _ (List.Mem.tail _ (List.Mem.head _)))) ?_
            refine z_getI X 179 (show cdA 213 88 = some (.getfield 191, 3, 12, 6, 0) from rfl) (by decide) rfl rfl ?_
            have b56 : (0 : Int) ≤ iI s8 79 ∧ iI s8 79 ≤ 9 := Is8.1 79
            refine z_if_eq X (t := 95) (show cdA 213 91 = some (.ifCond .eq 4, 3, 0, 0, 0) from rfl) (by decide) (rng_to _) (fun g57 => ?_) (fun g57 => ?_)
            ·
              refine z_aload_n X (x := A 179) (show cdA 213 95 = some (.aload_n 0, 1, 0, 0, 0) from rfl) (List.Mem.tail _ (List.Mem.tail _ (List.Mem.tail _ (List.Mem.head _)))) ?_
              refine z_callV X 179 (rm := rmN 203) (As := []) (st := []) (show cdA 213 96 = some (.invokevirtual 254, 3, 203, 0, 0) from rfl) rfl (by decide) rfl (by rw [E.1, E.2.1, E.2.2.1]; exact k_skipWord3 G Is8 JFDB_s8 (by omega)) ⟨by rw [E.2.2.2]; exact (show (rmN 203).frames + 1 ≤ (rmN 213).frames by decide), by rw [E.2.2.2]; exact (show 8 + (mNL (miB 203) + 11) + (rmN 203).locals ≤ (rmN 213).locals by decide), by rw [E.2.2.2]; exact (show 0 + (rmN 203).cells ≤ (rmN 213).cells by decide), by rw [E.2.2.2]; exact (show 0 + (rmN 203).slots ≤ (rmN 213).slots by decide)⟩ (Nat.le_of_ble_eq_true rfl) (fun vv s58 hq => ?_) (fun ee s58 hq => ?_)
              rotate_left
              · obtain ⟨Is58, Fs58, JFDB_s58, hv, hps58⟩ := hq; cases hv
              obtain ⟨Is58, Fs58, JFDB_s58, hv, hps58⟩ := hq
              cases hv
              have Gs58 := fm_ts Gs8 Fs58 (by decide) (by decide)
              have JFDB_s58 : FDB B N s58 := FDB_fm Fs58 (by decide) JFDB_s8
              have b60 : (0 : Int) ≤ iI s58 77 ∧ iI s58 77 ≤ 400 := Is58.1 77
              have ws58_75 : iI s58 75 = iI s8 75 := fm_i Fs58 (by decide)
              have ws58_79 : iI s58 79 = iI s8 79 := fm_i Fs58 (by decide)
              have ws58_78 : iI s58 78 = iI s8 78 := fm_i Fs58 (by decide)
              have ws58_86 : iI s58 86 = iI s8 86 := fm_i Fs58 (by decide)
              have ws58_87 : iI s58 87 = iI s8 87 := fm_i Fs58 (by decide)
              have ws58_88 : iI s58 88 = iI s8 88 := fm_i Fs58 (by decide)
              show WS k 99 [(3, .int (Int32.ofInt e20)), (2, .int (Int32.ofInt e15)), (1, .int (Int32.ofInt e9)), (0, .ref (A 179))] [] (Wd A dT s58) 0 0
              have hsw : iI s58 77 = wdE B N (sk B N (iI s 77)) := by rw [hps58.1, show iI s8 77 = (sk B N (iI s 77)) by omega]
              have hwz := wh_let (show whV B N (sk B N (iI s 77)) ≠ 0 by omega)
              have hwg := wd_gt hwz.1 hwz.2.1 hwz.2.2
              refine z_load_n X (x := e15) (show cdA 213 99 = some (.iload_n 2, 1, 0, 0, 0) from rfl) (List.Mem.tail _ (List.Mem.head _)) ?_
              refine z_if_eq X (t := 119) (show cdA 213 100 = some (.ifCond .eq 19, 3, 0, 0, 0) from rfl) (by decide) ⟨by first | exact oq_6ab4c69f g21 | omega, by first | exact oq_3b8a080c g21 | omega⟩ (fun g61 => ?_) (fun g61 => ?_)
              ·
                refine z_aload_n X (x := A 179) (show cdA 213 119 = some (.aload_n 0, 1, 0, 0, 0) from rfl) (List.Mem.tail _ (List.Mem.tail _ (List.Mem.tail _ (List.Mem.head _)))) ?_
                refine s_getR X 179 (show cdA 213 120 = some (.getfield 29, 3, 12, 20, 0) from rfl) (by decide) rfl rfl ?_
                refine z_aload_n X (x := A 179) (show cdA 213 123 = some (.aload_n 0, 1, 0, 0, 0) from rfl) (List.Mem.tail _ (List.Mem.tail _ (List.Mem.tail _ (List.Mem.head _)))) ?_
                refine z_getI X 179 (show cdA 213 124 = some (.getfield 288, 3, 12, 17, 0) from rfl) (by decide) rfl rfl ?_
                have b62 : (0 : Int) ≤ iI s58 87 ∧ iI s58 87 ≤ 8 := Is58.1 87
                refine z_aload_n X (x := A 179) (show cdA 213 127 = some (.aload_n 0, 1, 0, 0, 0) from rfl) (List.Mem.tail _ (List.Mem.tail _ (List.Mem.tail _ (List.Mem.head _)))) ?_
                refine z_getI X 179 (show cdA 213 128 = some (.getfield 184, 3, 12, 4, 0) from rfl) (by decide) rfl rfl ?_
                have b63 : (0 : Int) ≤ iI s58 77 ∧ iI s58 77 ≤ 400 := Is58.1 77
                refine z_ast X 183 (show cdA 213 131 = some (.iastore, 1, 0, 0, 0) from rfl) (by decide) rfl (by first | exact b62.1 | omega) (show (iI s58 87) < 8 by first | exact oq_7adb7498 ws58_87 g55 b54.2 ws8_87 ws8_86 p3 | omega) (by decide) ?_
                obtain ⟨s64, hs64⟩ : ∃ x0, x0 = uC s58 160 ((iI s58 87)).toNat (Int32.ofInt (iI s58 77)) := ⟨_, rfl⟩
                rw [← hs64]
                have Is64 : Bd s64 := by rw [hs64]; exact bd_C Is58 (show (0 : Int) ≤ (iI s58 77) ∧ (iI s58 77) ≤ 200 by first | exact ⟨b63.1, by omega⟩ | omega) (rng_to _)
                have Fs64 := fm_C (i := ((iI s58 87)).toNat) (x := Int32.ofInt (iI s58 77)) Gs58 (show 160 ∈ _ by decide)
                rw [← hs64] at Fs64
                have ws64_77 : iI s64 77 = iI s58 77 := by rw [hs64]; rfl
                have ws64_75 : iI s64 75 = iI s58 75 := by rw [hs64]; rfl
                have ws64_79 : iI s64 79 = iI s58 79 := by rw [hs64]; rfl
                have ws64_78 : iI s64 78 = iI s58 78 := by rw [hs64]; rfl
                have ws64_86 : iI s64 86 = iI s58 86 := by rw [hs64]; rfl
                have ws64_87 : iI s64 87 = iI s58 87 := by rw [hs64]; rfl
                have ws64_88 : iI s64 88 = iI s58 88 := by rw [hs64]; rfl
                have fs64 : Fm [] [160] s58 s64 := by rw [hs64]; exact fm_C (fm_rf _ _ _) (show 160 ∈ _ by decide)
                have JFDB_s64 : FDB B N s64 := FDB_fm fs64 (by decide) JFDB_s58
                refine z_aload_n X (x := A 179) (show cdA 213 132 = some (.aload_n 0, 1, 0, 0, 0) from rfl) (List.Mem.tail _ (List.Mem.tail _ (List.Mem.tail _ (List.Mem.head _)))) ?_
                refine w_dup X.1 (ax_d X (show cdA 213 133 = some (.dup, 1, 0, 0, 0) from rfl)) rfl ?_
                refine z_getI X 179 (show cdA 213 134 = some (.getfield 288, 3, 12, 17, 0) from rfl) (by decide) rfl rfl ?_
                have b65 : (0 : Int) ≤ iI s64 87 ∧ iI s64 87 ≤ 8 := Is64.1 87
                refine z_const X (show cdA 213 137 = some (.iconst 1, 1, 0, 0, 0) from rfl) ?_
                refine z_add X (show cdA 213 138 = some (.iadd, 1, 0, 0, 0) from rfl) ?_
                refine s_putI X 179 (show cdA 213 139 = some (.putfield 288, 3, 12, 17, 0) from rfl) (by decide) rfl rfl (by decide) rfl rfl rfl ?_
                obtain ⟨s66, hs66⟩ : ∃ x0, x0 = uI s64 87 (Int32.ofInt ((iI s64 87) + 1)) := ⟨_, rfl⟩
                rw [← hs66]
                have Is66 : Bd s66 := by rw [hs66]; exact bd_I Is64 (show (0 : Int) ≤ ((iI s64 87) + 1) ∧ ((iI s64 87) + 1) ≤ 8 by first | exact ⟨oq_54f49eb5 b65.1, oq_404f837d ws64_87 ws58_87 g55 b54.2 ws8_87 ws8_86 p3⟩ | omega) ⟨by first | exact oq_74de1e16 b65.1 | omega, by first | exact oq_3762dfb5 b65.2 | omega⟩
                have Fs66 := fm_I (x := Int32.ofInt ((iI s64 87) + 1)) Fs64 (show 87 ∈ _ by decide)
                rw [← hs66] at Fs66
                have vs66 : iI s66 87 = ((iI s64 87) + 1) := by rw [hs66]; exact iI_u ⟨by first | exact oq_74de1e16 b65.1 | omega, by first | exact oq_3762dfb5 b65.2 | omega⟩
                have ws66_77 : iI s66 77 = iI s64 77 := by rw [hs66]; rfl
                have ws66_75 : iI s66 75 = iI s64 75 := by rw [hs66]; rfl
                have ws66_79 : iI s66 79 = iI s64 79 := by rw [hs66]; rfl
                have ws66_78 : iI s66 78 = iI s64 78 := by rw [hs66]; rfl
                have ws66_86 : iI s66 86 = iI s64 86 := by rw [hs66]; rfl
                have ws66_88 : iI s66 88 = iI s64 88 := by rw [hs66]; rfl
                have fs66 : Fm [87] [] s64 s66 := by rw [hs66]; exact fm_I (fm_rf _ _ _) (show 87 ∈ _ by decide)
                have JFDB_s66 : FDB B N s66 := FDB_fm fs66 (by decide) JFDB_s64
                refine z_aload_n X (x := A 179) (show cdA 213 142 = some (.aload_n 0, 1, 0, 0, 0) from rfl) (List.Mem.tail _ (List.Mem.tail _ (List.Mem.tail _ (List.Mem.head _)))) ?_
                refine z_callV X 179 (rm := (rkR (24 + 3 * (7) + 2))) (As := []) (st := []) (show cdA 213 143 = some (.invokevirtual 276, 3, 212, 0, 0) from rfl) rfl (by decide) rfl (by rw [E.1, E.2.1, E.2.2.1]; exact (k_orsr3 G (B := B) (N := N) 7).2.2 Is66 JFDB_s66 (by omega) (by first | exact oq_44f88855 ws66_78 ws64_78 ws58_78 ws8_78 p1 b4.1 | omega) (by first | exact oq_d6c38034 ws66_78 ws64_78 ws58_78 ws8_78 p1 | omega) (by omega)) ⟨by rw [E.2.2.2]; exact (show (12 + (24 + 3 * (7) + 2)) + 1 ≤ 60 from oq_747fe883), by rw [E.2.2.2]; exact (show 8 + (3 + 11) + (500 + 45 * (24 + 3 * (7) + 2)) ≤ 2637 from oq_0300f435), by rw [E.2.2.2]; exact Nat.le_refl 0, by rw [E.2.2.2]; exact Nat.le_refl 0⟩ (Nat.le_of_ble_eq_true rfl) (fun vv s67 hq => ?_) (fun ee s67 hq => ?_)
                rotate_left
                · obtain ⟨Is67, Fs67, JFDB_s67, e68, hv, hrs67, hps67⟩ := hq; cases hv
                obtain ⟨Is67, Fs67, JFDB_s67, e68, hv, hrs67, hps67⟩ := hq
                cases hv
                have Gs67 := fm_ts Fs66 Fs67 (by decide) (by decide)
                have JFDB_s67 : FDB B N s67 := FDB_fm Fs67 (by decide) JFDB_s66
                have b69 : (0 : Int) ≤ iI s67 77 ∧ iI s67 77 ≤ 400 := Is67.1 77
                have ws67_75 : iI s67 75 = iI s66 75 := fm_i Fs67 (by decide)
                have b70 : (0 : Int) ≤ iI s67 79 ∧ iI s67 79 ≤ 9 := Is67.1 79
                have b71 : (0 : Int) ≤ iI s67 78 ∧ iI s67 78 ≤ 8 := Is67.1 78
                have ws67_86 : iI s67 86 = iI s66 86 := fm_i Fs67 (by decide)
                have ws67_87 : iI s67 87 = iI s66 87 := fm_i Fs67 (by decide)
                have ws67_88 : iI s67 88 = iI s66 88 := fm_i Fs67 (by decide)
                show WS k 146 [(3, .int (Int32.ofInt e20)), (2, .int (Int32.ofInt e15)), (1, .int (Int32.ofInt e9)), (0, .ref (A 179))] [.int (Int32.ofInt e68)] (Wd A dT s67) 0 0
                have hou : OUm B N 8 (sk B N (wdE B N (sk B N (iI s 77)))) 0 s67 := by have h := pf_ou hps67.2.2.2.2.2.2.2 (by omega); rw [show iI s66 77 = wdE B N (sk B N (iI s 77)) by omega, show iI s66 78 = 0 by omega] at h; exact h
                refine w_pop X.1 (ax_d X (show cdA 213 146 = some (.pop, 1, 0, 0, 0) from rfl)) rfl ?_
                refine z_aload_n X (x := A 179) (show cdA 213 147 = some (.aload_n 0, 1, 0, 0, 0) from rfl) (List.Mem.tail _ (List.Mem.tail _ (List.Mem.tail _ (List.Mem.head _)))) ?_
                refine z_getI X 179 (show cdA 213 148 = some (.getfield 191, 3, 12, 6, 0) from rfl) (by decide) rfl rfl ?_
                have b72 : (0 : Int) ≤ iI s67 79 ∧ iI s67 79 ≤ 9 := Is67.1 79
                refine z_if_ne X (t := 160) (show cdA 213 151 = some (.ifCond .ne 9, 3, 1, 0, 0) from rfl) (by decide) (rng_to _) (fun g73 => ?_) (fun g73 => ?_)
                ·
                  refine z_aload_n X (x := A 179) (show cdA 213 160 = some (.aload_n 0, 1, 0, 0, 0) from rfl) (List.Mem.tail _ (List.Mem.tail _ (List.Mem.tail _ (List.Mem.head _)))) ?_
                  refine w_dup X.1 (ax_d X (show cdA 213 161 = some (.dup, 1, 0, 0, 0) from rfl)) rfl ?_
                  refine z_getI X 179 (show cdA 213 162 = some (.getfield 282, 3, 12, 16, 0) from rfl) (by decide) rfl rfl ?_
                  have b74 : (0 : Int) ≤ iI s67 86 ∧ iI s67 86 ≤ 8 := Is67.1 86
                  refine z_const X (show cdA 213 165 = some (.iconst 1, 1, 0, 0, 0) from rfl) ?_
                  refine z_add X (show cdA 213 166 = some (.iadd, 1, 0, 0, 0) from rfl) ?_
                  refine s_putI X 179 (show cdA 213 167 = some (.putfield 282, 3, 12, 16, 0) from rfl) (by decide) rfl rfl (by decide) rfl rfl rfl ?_
                  obtain ⟨s75, hs75⟩ : ∃ x0, x0 = uI s67 86 (Int32.ofInt ((iI s67 86) + 1)) := ⟨_, rfl⟩
                  rw [← hs75]
                  have Is75 : Bd s75 := by rw [hs75]; exact bd_I Is67 (show (0 : Int) ≤ ((iI s67 86) + 1) ∧ ((iI s67 86) + 1) ≤ 8 by first | exact ⟨oq_54f49eb5 b74.1, oq_36461835 ws67_86 ws66_86 ws64_86 ws58_86 g55 b54.2⟩ | omega) ⟨by first | exact oq_74de1e16 b74.1 | omega, by first | exact oq_3762dfb5 b74.2 | omega⟩
                  have Fs75 := fm_I (x := Int32.ofInt ((iI s67 86) + 1)) Gs67 (show 86 ∈ _ by decide)
                  rw [← hs75] at Fs75
                  have vs75 : iI s75 86 = ((iI s67 86) + 1) := by rw [hs75]; exact iI_u ⟨by first | exact oq_74de1e16 b74.1 | omega, by first | exact oq_3762dfb5 b74.2 | omega⟩
                  have ws75_77 : iI s75 77 = iI s67 77 := by rw [hs75]; rfl
                  have ws75_75 : iI s75 75 = iI s67 75 := by rw [hs75]; rfl
                  have ws75_79 : iI s75 79 = iI s67 79 := by rw [hs75]; rfl
                  have ws75_78 : iI s75 78 = iI s67 78 := by rw [hs75]; rfl
                  have ws75_87 : iI s75 87 = iI s67 87 := by rw [hs75]; rfl
                  have ws75_88 : iI s75 88 = iI s67 88 := by rw [hs75]; rfl
                  have fs75 : Fm [86] [] s67 s75 := by rw [hs75]; exact fm_I (fm_rf _ _ _) (show 86 ∈ _ by decide)
                  have JFDB_s75 : FDB B N s75 := FDB_fm fs75 (by decide) JFDB_s67
                  exact w_vret X.1 q hRt (ax_d X (show cdA 213 170 = some (.return_, 1, 0, 0, 0) from rfl)) (Nat.zero_le _) (Nat.zero_le _) ⟨_, rfl, Is75, Fs75, JFDB_s75, rfl, ⟨by first | exact oq_e6068ff7 ws75_78 b71.1 hps67.1 ws66_78 ws64_78 ws58_78 ws8_78 p1 | omega, by first | exact oq_1e809b18 ws75_77 hps67.2.1 ws66_77 ws64_77 hps58.2.1 hps8.2.2.1 | omega, by first | exact oq_b7b8f116 ws75_77 hps67.2.2.2.2.2.1 hps67.2.2.1 ws66_79 ws64_79 ws58_79 g57 | omega, by first | exact oq_971796bb ws75_79 g73 b72.1 | omega, by first | exact oq_ce3e081a ws75_87 vs75 ws67_87 ws67_86 ws66_86 vs66 ws64_87 ws64_86 ws58_87 ws58_86 ws8_87 ws8_86 p3 | omega, by first | exact oq_314a3869 ws75_79 g73 b72.1 | omega, clm_of (c := s75) rfl (by exact Or.inr ⟨by omega, rfl⟩) (by omega) hou (Or.inl ⟨by omega, by omega⟩)⟩⟩
                ·
                  refine z_aload_n X (x := A 179) (show cdA 213 154 = some (.aload_n 0, 1, 0, 0, 0) from rfl) (List.Mem.tail _ (List.Mem.tail _ (List.Mem.tail _ (List.Mem.head _)))) ?_
                  refine z_bipush X (show cdA 213 155 = some (.bipush 59, 2, 0, 0, 59) from rfl) ?_
                  refine z_callV X 179 (rm := rmN 204) (As := [.int (Int32.ofInt 59)]) (st := []) (show cdA 213 157 = some (.invokevirtual 263, 3, 204, 0, 0) from rfl) rfl (by decide) rfl (by rw [E.1, E.2.1, E.2.2.1]; exact k_sign3 G Is67 JFDB_s67 (by first | exact ⟨by decide, by decide⟩ | omega) (by first | exact oq_bb33e387 hps67.2.2.2.2.2.1 hps67.2.2.1 ws66_79 ws64_79 ws58_79 g57 | omega)) ⟨by rw [E.2.2.2]; exact (show (rmN 204).frames + 1 ≤ (rmN 213).frames by decide), by rw [E.2.2.2]; exact (show 8 + (mNL (miB 204) + 11) + (rmN 204).locals ≤ (rmN 213).locals by decide), by rw [E.2.2.2]; exact (show 0 + (rmN 204).cells ≤ (rmN 213).cells by decide), by rw [E.2.2.2]; exact (show 0 + (rmN 204).slots ≤ (rmN 213).slots by decide)⟩ (Nat.le_of_ble_eq_true rfl) (fun vv s76 hq => ?_) (fun ee s76 hq => ?_)
                  rotate_left
                  · obtain ⟨Is76, Fs76, JFDB_s76, hv, hps76⟩ := hq; cases hv
                  obtain ⟨Is76, Fs76, JFDB_s76, hv, hps76⟩ := hq
                  cases hv
                  have Gs76 := fm_ts Gs67 Fs76 (by decide) (by decide)
                  have JFDB_s76 : FDB B N s76 := FDB_fm Fs76 (by decide) JFDB_s67
                  have b78 : (0 : Int) ≤ iI s76 77 ∧ iI s76 77 ≤ 400 := Is76.1 77
                  have ws76_75 : iI s76 75 = iI s67 75 := fm_i Fs76 (by decide)
                  have b79 : (0 : Int) ≤ iI s76 79 ∧ iI s76 79 ≤ 9 := Is76.1 79
                  have ws76_78 : iI s76 78 = iI s67 78 := fm_i Fs76 (by decide)
                  have ws76_86 : iI s76 86 = iI s67 86 := fm_i Fs76 (by decide)
                  have ws76_87 : iI s76 87 = iI s67 87 := fm_i Fs76 (by decide)
                  have ws76_88 : iI s76 88 = iI s67 88 := fm_i Fs76 (by decide)
                  have hsg : iI s76 79 = 0 → iI s76 77 ≤ N := fun h => sg_le hps76.1 h
                  show WS k 160 [(3, .int (Int32.ofInt e20)), (2, .int (Int32.ofInt e15)), (1, .int (Int32.ofInt e9)), (0, .ref (A 179))] [] (Wd A dT s76) 0 0
                  refine z_aload_n X (x := A 179) (show cdA 213 160 = some (.aload_n 0, 1, 0, 0, 0) from rfl) (List.Mem.tail _ (List.Mem.tail _ (List.Mem.tail _ (List.Mem.head _)))) ?_
                  refine w_dup X.1 (ax_d X (show cdA 213 161 = some (.dup, 1, 0, 0, 0) from rfl)) rfl ?_
                  refine z_getI X 179 (show cdA 213 162 = some (.getfield 282, 3, 12, 16, 0) from rfl) (by decide) rfl rfl ?_
                  have b80 : (0 : Int) ≤ iI s76 86 ∧ iI s76 86 ≤ 8 := Is76.1 86
                  refine z_const X (show cdA 213 165 = some (.iconst 1, 1, 0, 0, 0) from rfl) ?_
                  refine z_add X (show cdA 213 166 = some (.iadd, 1, 0, 0, 0) from rfl) ?_
                  refine s_putI X 179 (show cdA 213 167 = some (.putfield 282, 3, 12, 16, 0) from rfl) (by decide) rfl rfl (by decide) rfl rfl rfl ?_
                  obtain ⟨s81, hs81⟩ : ∃ x0, x0 = uI s76 86 (Int32.ofInt ((iI s76 86) + 1)) := ⟨_, rfl⟩
                  rw [← hs81]
                  have Is81 : Bd s81 := by rw [hs81]; exact bd_I Is76 (show (0 : Int) ≤ ((iI s76 86) + 1) ∧ ((iI s76 86) + 1) ≤ 8 by first | exact ⟨oq_54f49eb5 b80.1, oq_56cdf1d3 ws76_86 ws67_86 ws66_86 ws64_86 ws58_86 g55 b54.2⟩ | omega) ⟨by first | exact oq_74de1e16 b80.1 | omega, by first | exact oq_3762dfb5 b80.2 | omega⟩
                  have Fs81 := fm_I (x := Int32.ofInt ((iI s76 86) + 1)) Gs76 (show 86 ∈ _ by decide)
                  rw [← hs81] at Fs81
                  have vs81 : iI s81 86 = ((iI s76 86) + 1) := by rw [hs81]; exact iI_u ⟨by first | exact oq_74de1e16 b80.1 | omega, by first | exact oq_3762dfb5 b80.2 | omega⟩
                  have ws81_77 : iI s81 77 = iI s76 77 := by rw [hs81]; rfl
                  have ws81_75 : iI s81 75 = iI s76 75 := by rw [hs81]; rfl
                  have ws81_79 : iI s81 79 = iI s76 79 := by rw [hs81]; rfl
                  have ws81_78 : iI s81 78 = iI s76 78 := by rw [hs81]; rfl
                  have ws81_87 : iI s81 87 = iI s76 87 := by rw [hs81]; rfl
                  have ws81_88 : iI s81 88 = iI s76 88 := by rw [hs81]; rfl
                  have fs81 : Fm [86] [] s76 s81 := by rw [hs81]; exact fm_I (fm_rf _ _ _) (show 86 ∈ _ by decide)
                  have JFDB_s81 : FDB B N s81 := FDB_fm fs81 (by decide) JFDB_s76
                  exact w_vret X.1 q hRt (ax_d X (show cdA 213 170 = some (.return_, 1, 0, 0, 0) from rfl)) (Nat.zero_le _) (Nat.zero_le _) ⟨_, rfl, Is81, Fs81, JFDB_s81, rfl, ⟨by first | exact oq_6da97644 ws81_78 ws76_78 b71.1 hps67.1 ws66_78 ws64_78 ws58_78 ws8_78 p1 | omega, by first | exact oq_a86b6adc ws81_77 hps76.2.1 hps67.2.1 ws66_77 ws64_77 hps58.2.1 hps8.2.2.1 | omega, by omega, by omega, by first | exact oq_42ada30f ws81_87 vs81 ws76_87 ws76_86 ws67_87 ws67_86 ws66_86 vs66 ws64_87 ws64_86 ws58_87 ws58_86 ws8_87 ws8_86 p3 | omega, by first | exact oq_28d8858a vs81 ws76_86 ws67_86 ws66_86 ws64_86 ws58_86 ws8_86 | omega, clm_of (c := s76) rfl (by exact Or.inr ⟨by omega, rfl⟩) (by omega) hou (Or.inr ⟨by omega, hps76.1, by omega, by omega⟩)⟩⟩
              ·
                exfalso
                omega
            ·
              exfalso
              omega
          ·
            refine z_aload_n X (x := A 179) (show cdA 213 78 = some (.aload_n 0, 1, 0, 0, 0) from rfl) (List.Mem.tail _ (List.Mem.tail _ (List.Mem.tail _ (List.Mem.head _)))) ?_
            refine z_const X (show cdA 213 79 = some (.iconst 3, 1, 0, 0, 0) from rfl) ?_
            refine z_aload_n X (x := A 179) (show cdA 213 80 = some (.aload_n 0, 1, 0, 0, 0) from rfl) (List.Mem.tail _ (List.Mem.tail _ (List.Mem.tail _ (List.Mem.head _)))) ?_
            refine z_getI X 179 (show cdA 213 81 = some (.getfield 184, 3, 12, 4, 0) from rfl) (by decide) rfl rfl ?_
            have b82 : (0 : Int) ≤ iI s8 77 ∧ iI s8 77 ≤ 400 := Is8.1 77
            refine z_callV X 179 (rm := rmN 194) (As := [.int (Int32.ofInt 3), .int (Int32.ofInt (iI s8 77))]) (st := []) (show cdA 213 84 = some (.invokevirtual 204, 3, 194, 0, 0) from rfl) rfl (by decide) rfl (by rw [E.1, E.2.1, E.2.2.1]; exact k_wrong3 G Is8 (by first | exact ⟨by decide, by decide⟩ | omega) (by first | exact ⟨oq_ca54ea22 b82.1, b82.2⟩ | omega)) ⟨by rw [E.2.2.2]; exact (show (rmN 194).frames + 1 ≤ (rmN 213).frames by decide), by rw [E.2.2.2]; exact (show 8 + (mNL (miB 194) + 11) + (rmN 194).locals ≤ (rmN 213).locals by decide), by rw [E.2.2.2]; exact (show 0 + (rmN 194).cells ≤ (rmN 213).cells by decide), by rw [E.2.2.2]; exact (show 0 + (rmN 194).slots ≤ (rmN 213).slots by decide)⟩ (Nat.le_of_ble_eq_true rfl) (fun vv s83 hq => ?_) (fun ee s83 hq => ?_)
            rotate_left
            · obtain ⟨Is83, Fs83, hv, hps83⟩ := hq; cases hv
            obtain ⟨Is83, Fs83, hv, hps83⟩ := hq
            cases hv
            have Gs83 := fm_ts Gs8 Fs83 (by decide) (by decide)
            have JFDB_s83 : FDB B N s83 := FDB_fm Fs83 (by decide) JFDB_s8
            have ws83_77 : iI s83 77 = iI s8 77 := fm_i Fs83 (by decide)
            have ws83_75 : iI s83 75 = iI s8 75 := fm_i Fs83 (by decide)
            have b85 : (0 : Int) ≤ iI s83 79 ∧ iI s83 79 ≤ 9 := Is83.1 79
            have ws83_78 : iI s83 78 = iI s8 78 := fm_i Fs83 (by decide)
            have ws83_86 : iI s83 86 = iI s8 86 := fm_i Fs83 (by decide)
            have ws83_87 : iI s83 87 = iI s8 87 := fm_i Fs83 (by decide)
            have ws83_88 : iI s83 88 = iI s8 88 := fm_i Fs83 (by decide)
            show WS k 87 [(3, .int (Int32.ofInt e20)), (2, .int (Int32.ofInt e15)), (1, .int (Int32.ofInt e9)), (0, .ref (A 179))] [] (Wd A dT s83) 0 0
            refine z_aload_n X (x := A 179) (show cdA 213 87 = some (.aload_n 0, 1, 0, 0, 0) from rfl) (List.Mem.tail _ (List.Mem.tail _ (List.Mem.tail _ (List.Mem.head _)))) ?_
            refine z_getI X 179 (show cdA 213 88 = some (.getfield 191, 3, 12, 6, 0) from rfl) (by decide) rfl rfl ?_
            have b86 : (0 : Int) ≤ iI s83 79 ∧ iI s83 79 ≤ 9 := Is83.1 79
            refine z_if_eq X (t := 95) (show cdA 213 91 = some (.ifCond .eq 4, 3, 0, 0, 0) from rfl) (by decide) (rng_to _) (fun g87 => ?_) (fun g87 => ?_)
            ·
              exfalso
              omega
            ·
              exact w_vret X.1 q hRt (ax_d X (show cdA 213 94 = some (.return_, 1, 0, 0, 0) from rfl)) (Nat.zero_le _) (Nat.zero_le _) ⟨_, rfl, Is83, Gs83, JFDB_s83, rfl, ⟨by first | exact oq_7fe879e0 ws83_78 ws8_78 p1 b4.1 | omega, by first | exact oq_9272904e ws83_77 hps8.2.2.1 | omega, by omega, by first | exact oq_f7664523 g87 b86.1 | omega, by first | exact oq_ea1d993c ws83_86 ws83_87 ws8_87 b6.2 g55 | omega, by first | exact oq_2dbfa935 g87 b86.1 | omega, clm_3 (by omega) (by omega) (by omega)⟩⟩
        ·
          refine z_aload_n X (x := A 179) (show cdA 213 57 = some (.aload_n 0, 1, 0, 0, 0) from rfl) (List.Mem.tail _ (List.Mem.tail _ (List.Mem.tail _ (List.Mem.head _)))) ?_
          refine z_const X (show cdA 213 58 = some (.iconst 1, 1, 0, 0, 0) from rfl) ?_
          refine z_aload_n X (x := A 179) (show cdA 213 59 = some (.aload_n 0, 1, 0, 0, 0) from rfl) (List.Mem.tail _ (List.Mem.tail _ (List.Mem.tail _ (List.Mem.head _)))) ?_
          refine z_getI X 179 (show cdA 213 60 = some (.getfield 184, 3, 12, 4, 0) from rfl) (by decide) rfl rfl ?_
          have b88 : (0 : Int) ≤ iI s8 77 ∧ iI s8 77 ≤ 400 := Is8.1 77
          refine z_callV X 179 (rm := rmN 194) (As := [.int (Int32.ofInt 1), .int (Int32.ofInt (iI s8 77))]) (st := []) (show cdA 213 63 = some (.invokevirtual 204, 3, 194, 0, 0) from rfl) rfl (by decide) rfl (by rw [E.1, E.2.1, E.2.2.1]; exact k_wrong3 G Is8 (by first | exact ⟨by decide, by decide⟩ | omega) (by first | exact ⟨oq_ca54ea22 b88.1, b88.2⟩ | omega)) ⟨by rw [E.2.2.2]; exact (show (rmN 194).frames + 1 ≤ (rmN 213).frames by decide), by rw [E.2.2.2]; exact (show 8 + (mNL (miB 194) + 11) + (rmN 194).locals ≤ (rmN 213).locals by decide), by rw [E.2.2.2]; exact (show 0 + (rmN 194).cells ≤ (rmN 213).cells by decide), by rw [E.2.2.2]; exact (show 0 + (rmN 194).slots ≤ (rmN 213).slots by decide)⟩ (Nat.le_of_ble_eq_true rfl) (fun vv s89 hq => ?_) (fun ee s89 hq => ?_)
          rotate_left
          · obtain ⟨Is89, Fs89, hv, hps89⟩ := hq; cases hv
          obtain ⟨Is89, Fs89, hv, hps89⟩ := hq
          cases hv
          have Gs89 := fm_ts Gs8 Fs89 (by decide) (by decide)
          have JFDB_s89 : FDB B N s89 := FDB_fm Fs89 (by decide) JFDB_s8
          have ws89_77 : iI s89 77 = iI s8 77 := fm_i Fs89 (by decide)
          have ws89_75 : iI s89 75 = iI s8 75 := fm_i Fs89 (by decide)
          have b91 : (0 : Int) ≤ iI s89 79 ∧ iI s89 79 ≤ 9 := Is89.1 79
          have ws89_78 : iI s89 78 = iI s8 78 := fm_i Fs89 (by decide)
          have ws89_86 : iI s89 86 = iI s8 86 := fm_i Fs89 (by decide)
          have ws89_87 : iI s89 87 = iI s8 87 := fm_i Fs89 (by decide)
          have ws89_88 : iI s89 88 = iI s8 88 := fm_i Fs89 (by decide)
          show WS k 66 [(3, .int (Int32.ofInt e20)), (2, .int (Int32.ofInt e15)), (1, .int (Int32.ofInt e9)), (0, .ref (A 179))] [] (Wd A dT s89) 0 0
          refine z_goto X (t := 87) (show cdA 213 66 = some (.goto 21, 3, 0, 0, 0) from rfl) (by decide) ?_
          refine z_aload_n X (x := A 179) (show cdA 213 87 = some (.aload_n 0, 1, 0, 0, 0) from rfl) (List.Mem.tail _ (List.Mem.tail _ (List.Mem.tail _ (List.Mem.head _)))) ?_
          refine z_getI X 179 (show cdA 213 88 = some (.getfield 191, 3, 12, 6, 0) from rfl) (by decide) rfl rfl ?_
          have b92 : (0 : Int) ≤ iI s89 79 ∧ iI s89 79 ≤ 9 := Is89.1 79
          refine z_if_eq X (t := 95) (show cdA 213 91 = some (.ifCond .eq 4, 3, 0, 0, 0) from rfl) (by decide) (rng_to _) (fun g93 => ?_) (fun g93 => ?_)
          ·
            exfalso
            omega
          ·
            exact w_vret X.1 q hRt (ax_d X (show cdA 213 94 = some (.return_, 1, 0, 0, 0) from rfl)) (Nat.zero_le _) (Nat.zero_le _) ⟨_, rfl, Is89, Gs89, JFDB_s89, rfl, ⟨by first | exact oq_7fe879e0 ws89_78 ws8_78 p1 b4.1 | omega, by first | exact oq_9272904e ws89_77 hps8.2.2.1 | omega, by omega, by first | exact oq_f7664523 g93 b92.1 | omega, by first | exact oq_4407eb3c ws89_86 ws89_87 ws8_86 ws8_87 p3 | omega, by first | exact oq_2dbfa935 g93 b92.1 | omega, clm_1 (by omega) (by omega) (by omega)⟩⟩
    refine z_icmp_ne X (t := 47) (show cdA 213 40 = some (.if_icmp .ne 7, 3, 1, 0, 0) from rfl) (by decide) hrs8 hrs16 (fun g94 => ?_) (fun g94 => ?_)
    ·
      refine z_const X (show cdA 213 47 = some (.iconst 0, 1, 0, 0, 0) from rfl) ?_
      exact N19 _ (Or.inl ⟨g94, rfl⟩)
    ·
      refine z_const X (show cdA 213 43 = some (.iconst 1, 1, 0, 0, 0) from rfl) ?_
      refine z_goto X (t := 48) (show cdA 213 44 = some (.goto 4, 3, 0, 0, 0) from rfl) (by decide) ?_
      exact N19 _ (Or.inr (⟨g94, rfl⟩))
  refine z_icmp_ne X (t := 24) (show cdA 213 17 = some (.if_icmp .ne 7, 3, 1, 0, 0) from rfl) (by decide) hrs8 hrs11 (fun g95 => ?_) (fun g95 => ?_)
  ·
    refine z_const X (show cdA 213 24 = some (.iconst 0, 1, 0, 0, 0) from rfl) ?_
    exact N14 _ (Or.inl ⟨g95, rfl⟩)
  ·
    refine z_const X (show cdA 213 20 = some (.iconst 1, 1, 0, 0, 0) from rfl) ?_
    refine z_goto X (t := 25) (show cdA 213 21 = some (.goto 4, 3, 0, 0, 0) from rfl) (by decide) ?_
    exact N14 _ (Or.inr (⟨g95, rfl⟩))
set_option maxRecDepth 4000 in
theorem c7_readClause3 (G : GX l s0 D tys a0 dT) {B : Nat → Int} {N : Int} (SF : SF0 s0) (GT : TXw0 s0) (I : Bd s) (jBYW : BYW B N s) (jTKS : TKS B N s) {x : Int} (p0 : 0 ≤ x ∧ x ≤ 8) (p1 : iI s 2 ≤ iI s 1) (p2 : iI s 4 ≤ iI s 2) (p3 : iI s 19 = 0) (p4 : iI s 16 ≤ iI s 4) : CT l s0 D A dT 71 (rmN 71) [.ref (A 19), .int (Int32.ofInt x)] s (fun o t => Bd t ∧ Fm [2, 4, 6, 5, 7, 8, 19, 16, 17, 18] [18, 19] s t ∧ BYW B N t ∧ TKS B N t ∧ ∃ e, o = .inl (some (.int (Int32.ofInt e))) ∧ rng e ∧ ((e = 0 ∨ (e = 1 ∧ iI t 19 = 0 ∧ iI s 4 < iI t 4 ∧ iI t 4 ≤ N ∧ iI t 16 ≤ iI t 4)) ∧ iI t 2 ≤ iI t 1 ∧ iI t 4 ≤ iI t 2 ∧ CLC B N x s t e)) := by
  refine ct_ofX G (by decide) (Nat.le_of_ble_eq_true rfl) (fun k X E ET hRt hXt q => ?_)
  show WS k 0 [(0, .ref (A 19)), (1, .int (Int32.ofInt x))] [] _ 0 0
  have F : Fm [2, 4, 6, 5, 7, 8, 19, 16, 17, 18] [18, 19] s s := fm_rf _ _ s
  have hN := jBYW.2.1
  have hW := jBYW.2.2
  have hwd := tkw_wd jTKS
  have b1 : (0 : Int) ≤ iI s 2 ∧ iI s 2 ≤ 200 := I.1 2
  have b2 : (0 : Int) ≤ iI s 1 ∧ iI s 1 ≤ 200 := I.1 1
  have b3 : (0 : Int) ≤ iI s 4 ∧ iI s 4 ≤ 200 := I.1 4
  have b4 : ((-3) : Int) ≤ iI s 5 ∧ iI s 5 ≤ 255 := I.1 5
  have b5 : (0 : Int) ≤ iI s 6 ∧ iI s 6 ≤ 100000 := I.1 6
  have b6 : (0 : Int) ≤ iI s 19 ∧ iI s 19 ≤ 6 := I.1 19
  have b7 : (0 : Int) ≤ iI s 16 ∧ iI s 16 ≤ 200 := I.1 16
  have b8 : (0 : Int) ≤ iI s 7 ∧ iI s 7 ≤ 9 := I.1 7
  refine z_aload_n X (x := A 19) (show cdA 71 0 = some (.aload_n 0, 1, 0, 0, 0) from rfl) (List.Mem.head _) ?_
  refine s_getR X 19 (show cdA 71 1 = some (.getfield 31, 3, 7, 0, 0) from rfl) (by decide) rfl rfl ?_
  obtain ⟨tx74, q74, hR74, hS74⟩ := GT (74, [108, 111, 97, 100]) (by decide)
  refine w_ldcK X (show vk_R (kOwn k) 74 tx74 q74 (kS0 k) by rw [E.2.1, X.2.1.2.1]; exact hR74) (show decode (kCc k) 4 = .ok (.ldc 74, 2) by rw [X.2.1.1]; decide +kernel) ?_
  refine z_callV X 1 (rm := rmN 131) (As := [.ref q74]) (st := []) (show cdA 71 6 = some (.invokevirtual 76, 3, 131, 0, 0) from rfl) rfl (by decide) rfl (by rw [E.1, E.2.1, E.2.2.1]; exact c10_says3 G SF hS74 (by decide) I jBYW jTKS (by first | exact p2 | omega)) ⟨by rw [E.2.2.2]; exact (show (rmN 131).frames + 1 ≤ (rmN 71).frames by decide), by rw [E.2.2.2]; exact (show 8 + (mNL (miB 131) + 11) + (rmN 131).locals ≤ (rmN 71).locals by decide), by rw [E.2.2.2]; exact (show 0 + (rmN 131).cells ≤ (rmN 71).cells by decide), by rw [E.2.2.2]; exact (show 0 + (rmN 131).slots ≤ (rmN 71).slots by decide)⟩ (Nat.le_of_ble_eq_true rfl) (fun vv s9 hq => ?_) (fun ee s9 hq => ?_)
  rotate_left
  · obtain ⟨Is9, Fs9, JBYW_s9, JTKS_s9, e10, hv, hrs9, hps9⟩ := hq; cases hv
  obtain ⟨Is9, Fs9, JBYW_s9, JTKS_s9, e10, hv, hrs9, hps9⟩ := hq
  cases hv
  have Gs9 := fm_ts F Fs9 (by decide) (by decide)
  have JBYW_s9 : BYW B N s9 := BYW_fm Fs9 (by decide) jBYW
  have JTKS_s9 : TKS B N s9 := TKS_fm Fs9 (by decide) jTKS
  have ws9_2 : iI s9 2 = iI s 2 := fm_i Fs9 (by decide)
  have ws9_1 : iI s9 1 = iI s 1 := fm_i Fs9 (by decide)
  have ws9_4 : iI s9 4 = iI s 4 := fm_i Fs9 (by decide)
  have ws9_5 : iI s9 5 = iI s 5 := fm_i Fs9 (by decide)
  have ws9_6 : iI s9 6 = iI s 6 := fm_i Fs9 (by decide)
  have ws9_19 : iI s9 19 = iI s 19 := fm_i Fs9 (by decide)
  have ws9_16 : iI s9 16 = iI s 16 := fm_i Fs9 (by decide)
  have ws9_7 : iI s9 7 = iI s 7 := fm_i Fs9 (by decide)
  have hws9 : (e10 = 1 ∧ whV B N (iI s 4) = 247162) ∨ (e10 = 0 ∧ whV B N (iI s 4) ≠ 247162) := by have h := hps9; rw [show iI s 4 = iI s 4 by omega, show whL [108, 111, 97, 100] 0 = 247162 by decide] at h; exact h
  show WS k 9 [(0, .ref (A 19)), (1, .int (Int32.ofInt x))] [.int (Int32.ofInt e10)] (Wd A dT s9) 0 0
  refine z_store_n X (lv' := [(2, .int (Int32.ofInt e10)), (0, .ref (A 19)), (1, .int (Int32.ofInt x))]) (show cdA 71 9 = some (.istore_n 2, 1, 0, 0, 0) from rfl) (by decide) (fun _ h => h) ?_
  refine z_load_n X (x := e10) (show cdA 71 10 = some (.iload_n 2, 1, 0, 0, 0) from rfl) (List.Mem.head _) ?_
  refine z_if_ne X (t := 35) (show cdA 71 11 = some (.ifCond .ne 24, 3, 1, 0, 0) from rfl) (by decide) hrs9 (fun g11 => ?_) (fun g11 => ?_)
  ·
    refine z_load_n X (x := x) (show cdA 71 35 = some (.iload_n 1, 1, 0, 0, 0) from rfl) (List.Mem.tail _ (List.Mem.tail _ (List.Mem.head _))) ?_
    refine z_bipush X (show cdA 71 36 = some (.bipush 8, 2, 0, 0, 8) from rfl) ?_
    refine z_icmp_lt X (t := 50) (show cdA 71 38 = some (.if_icmp .lt 12, 3, 2, 0, 0) from rfl) (by decide) ⟨by first | exact oq_fa4e5087 p0.1 | omega, by first | exact oq_d3f5d874 p0.2 | omega⟩ (by decide) (fun g12 => ?_) (fun g12 => ?_)
    ·
      have hwl : whV B N (iI s 4) = 247162 ∨ whV B N (iI s 4) = 208022 := by omega
      have hk3 : iI s 5 = -3 := Classical.byContradiction (fun q => by have := hwd.2 q; omega)
      have ha3 := (hwd.1 hk3).1
      have hg3 := (hwd.1 hk3).2
      have hsk := sk_le (B := B) (N := N) (p := wdE B N (iI s 4))
      refine z_aload_n X (x := A 19) (show cdA 71 50 = some (.aload_n 0, 1, 0, 0, 0) from rfl) (List.Mem.tail _ (List.Mem.head _)) ?_
      refine s_getR X 19 (show cdA 71 51 = some (.getfield 31, 3, 7, 0, 0) from rfl) (by decide) rfl rfl ?_
      refine z_callV X 1 (rm := rmN 129) (As := []) (st := []) (show cdA 71 54 = some (.invokevirtual 85, 3, 129, 0, 0) from rfl) rfl (by decide) rfl (by rw [E.1, E.2.1, E.2.2.1]; exact c10_step3 G Is9 JBYW_s9 (by first | exact oq_e7b9ecab ws9_1 ws9_2 p1 | omega)) ⟨by rw [E.2.2.2]; exact (show (rmN 129).frames + 1 ≤ (rmN 71).frames by decide), by rw [E.2.2.2]; exact (show 8 + (mNL (miB 129) + 11) + (rmN 129).locals ≤ (rmN 71).locals by decide), by rw [E.2.2.2]; exact (show 0 + (rmN 129).cells ≤ (rmN 71).cells by decide), by rw [E.2.2.2]; exact (show 0 + (rmN 129).slots ≤ (rmN 71).slots by decide)⟩ (Nat.le_of_ble_eq_true rfl) (fun vv s13 hq => ?_) (fun ee s13 hq => ?_)
      rotate_left
      · obtain ⟨Is13, Fs13, JBYW_s13, JTKS_s13, hv, hps13⟩ := hq; cases hv
      obtain ⟨Is13, Fs13, JBYW_s13, JTKS_s13, hv, hps13⟩ := hq
      cases hv
      have Gs13 := fm_ts Gs9 Fs13 (by decide) (by decide)
      have JBYW_s13 : BYW B N s13 := BYW_fm Fs13 (by decide) JBYW_s9
      have b15 : (0 : Int) ≤ iI s13 2 ∧ iI s13 2 ≤ 200 := Is13.1 2
      have ws13_1 : iI s13 1 = iI s9 1 := fm_i Fs13 (by decide)
      have b16 : (0 : Int) ≤ iI s13 4 ∧ iI s13 4 ≤ 200 := Is13.1 4
      have b17 : ((-3) : Int) ≤ iI s13 5 ∧ iI s13 5 ≤ 255 := Is13.1 5
      have b18 : (0 : Int) ≤ iI s13 6 ∧ iI s13 6 ≤ 100000 := Is13.1 6
      have ws13_19 : iI s13 19 = iI s9 19 := fm_i Fs13 (by decide)
      have ws13_16 : iI s13 16 = iI s9 16 := fm_i Fs13 (by decide)
      have ws13_7 : iI s13 7 = iI s9 7 := fm_i Fs13 (by decide)
      show WS k 57 [(2, .int (Int32.ofInt e10)), (0, .ref (A 19)), (1, .int (Int32.ofInt x))] [] (Wd A dT s13) 0 0
      have hs1 : iI s13 4 = sk B N (wdE B N (iI s 4)) := by rw [hps13.2.2.1, show iI s9 2 = wdE B N (iI s 4) by omega]
      refine z_load_n X (x := e10) (show cdA 71 57 = some (.iload_n 2, 1, 0, 0, 0) from rfl) (List.Mem.head _) ?_
      refine z_if_eq X (t := 71) (show cdA 71 58 = some (.ifCond .eq 13, 3, 0, 0, 0) from rfl) (by decide) hrs9 (fun g19 => ?_) (fun g19 => ?_)
      ·
        exfalso
        omega
      ·
        refine z_aload_n X (x := A 19) (show cdA 71 61 = some (.aload_n 0, 1, 0, 0, 0) from rfl) (List.Mem.tail _ (List.Mem.head _)) ?_
        refine z_callV X 19 (rm := (rkR (4 * (7) + 3))) (As := []) (st := []) (show cdA 71 62 = some (.invokevirtual 88, 3, 75, 0, 0) from rfl) rfl (by decide) rfl (by rw [E.1, E.2.1, E.2.2.1]; exact (c7_sumr3 G (B := B) (N := N) SF GT 7).2.2.2 Is13 JBYW_s13 JTKS_s13 (by first | exact hps13.1 | omega) (by first | exact hps13.2.1 | omega) (by first | exact oq_7d321bf4 ws13_19 ws9_19 b6.1 | omega) (by first | exact oq_c0fb8fc4 ws13_16 hps13.2.2.2 ws9_16 ws9_2 p4 p2 | omega)) ⟨by rw [E.2.2.2]; exact (show (12 + (4 * (7) + 3)) + 1 ≤ 68 from oq_4cedc687), by rw [E.2.2.2]; exact (show 8 + (3 + 11) + (500 + 45 * (4 * (7) + 3)) ≤ 2996 from oq_b0ed7f34), by rw [E.2.2.2]; exact Nat.le_refl 0, by rw [E.2.2.2]; exact Nat.le_refl 0⟩ (Nat.le_of_ble_eq_true rfl) (fun vv s20 hq => ?_) (fun ee s20 hq => ?_)
        rotate_left
        · obtain ⟨Is20, Fs20, JBYW_s20, JTKS_s20, e21, hv, hrs20, hps20⟩ := hq; cases hv
        obtain ⟨Is20, Fs20, JBYW_s20, JTKS_s20, e21, hv, hrs20, hps20⟩ := hq
        cases hv
        have Gs20 := fm_ts Gs13 Fs20 (by decide) (by decide)
        have JBYW_s20 : BYW B N s20 := BYW_fm Fs20 (by decide) JBYW_s13
        have b22 : (0 : Int) ≤ iI s20 2 ∧ iI s20 2 ≤ 200 := Is20.1 2
        have ws20_1 : iI s20 1 = iI s13 1 := fm_i Fs20 (by decide)
        have b23 : (0 : Int) ≤ iI s20 4 ∧ iI s20 4 ≤ 200 := Is20.1 4
        have b24 : ((-3) : Int) ≤ iI s20 5 ∧ iI s20 5 ≤ 255 := Is20.1 5
        have b25 : (0 : Int) ≤ iI s20 6 ∧ iI s20 6 ≤ 100000 := Is20.1 6
        have b26 : (0 : Int) ≤ iI s20 19 ∧ iI s20 19 ≤ 6 := Is20.1 19
        have b27 : (0 : Int) ≤ iI s20 16 ∧ iI s20 16 ≤ 200 := Is20.1 16
        have b28 : (0 : Int) ≤ iI s20 7 ∧ iI s20 7 ≤ 9 := Is20.1 7
        show WS k 65 [(2, .int (Int32.ofInt e10)), (0, .ref (A 19)), (1, .int (Int32.ofInt x))] [.int (Int32.ofInt e21)] (Wd A dT s20) 0 0
        refine z_if_ne X (t := 80) (show cdA 71 65 = some (.ifCond .ne 15, 3, 1, 0, 0) from rfl) (by decide) hrs20 (fun g29 => ?_) (fun g29 => ?_)
        ·
          refine z_aload_n X (x := A 19) (show cdA 71 80 = some (.aload_n 0, 1, 0, 0, 0) from rfl) (List.Mem.tail _ (List.Mem.head _)) ?_
          refine z_bipush X (show cdA 71 81 = some (.bipush 59, 2, 0, 0, 59) from rfl) ?_
          refine z_callV X 19 (rm := rmN 81) (As := [.int (Int32.ofInt 59)]) (st := []) (show cdA 71 83 = some (.invokevirtual 95, 3, 81, 0, 0) from rfl) rfl (by decide) rfl (by rw [E.1, E.2.1, E.2.2.1]; exact c7_pass3 G Is20 JBYW_s20 JTKS_s20 (by first | exact ⟨by decide, by decide⟩ | omega) (by first | exact Or.inr (by decide) | omega) (by first | exact Or.inl (by decide) | omega) (by first | exact hps20.2.1 | omega) (by first | exact hps20.2.2.1 | omega)) ⟨by rw [E.2.2.2]; exact (show (rmN 81).frames + 1 ≤ (rmN 71).frames by decide), by rw [E.2.2.2]; exact (show 8 + (mNL (miB 81) + 11) + (rmN 81).locals ≤ (rmN 71).locals by decide), by rw [E.2.2.2]; exact (show 0 + (rmN 81).cells ≤ (rmN 71).cells by decide), by rw [E.2.2.2]; exact (show 0 + (rmN 81).slots ≤ (rmN 71).slots by decide)⟩ (Nat.le_of_ble_eq_true rfl) (fun vv s30 hq => ?_) (fun ee s30 hq => ?_)
          rotate_left
          · obtain ⟨Is30, Fs30, JBYW_s30, JTKS_s30, e31, hv, hrs30, hps30⟩ := hq; cases hv
          obtain ⟨Is30, Fs30, JBYW_s30, JTKS_s30, e31, hv, hrs30, hps30⟩ := hq
          cases hv
          have Gs30 := fm_ts Gs20 Fs30 (by decide) (by decide)
          have JBYW_s30 : BYW B N s30 := BYW_fm Fs30 (by decide) JBYW_s20
          have b32 : (0 : Int) ≤ iI s30 2 ∧ iI s30 2 ≤ 200 := Is30.1 2
          have ws30_1 : iI s30 1 = iI s20 1 := fm_i Fs30 (by decide)
          have b33 : (0 : Int) ≤ iI s30 4 ∧ iI s30 4 ≤ 200 := Is30.1 4
          have b34 : ((-3) : Int) ≤ iI s30 5 ∧ iI s30 5 ≤ 255 := Is30.1 5
          have b35 : (0 : Int) ≤ iI s30 6 ∧ iI s30 6 ≤ 100000 := Is30.1 6
          have ws30_19 : iI s30 19 = iI s20 19 := fm_i Fs30 (by decide)
          have ws30_16 : iI s30 16 = iI s20 16 := fm_i Fs30 (by decide)
          have b36 : (0 : Int) ≤ iI s30 7 ∧ iI s30 7 ≤ 9 := Is30.1 7
          show WS k 86 [(2, .int (Int32.ofInt e10)), (0, .ref (A 19)), (1, .int (Int32.ofInt x))] [.int (Int32.ofInt e31)] (Wd A dT s30) 0 0
          have hpg : e31 ≠ 0 → iI s20 4 < iI s30 4 ∧ iI s30 4 ≤ N := fun h => pss_gt hps30.2.2.2 h
          refine z_if_ne X (t := 91) (show cdA 71 86 = some (.ifCond .ne 5, 3, 1, 0, 0) from rfl) (by decide) hrs30 (fun g37 => ?_) (fun g37 => ?_)
          ·
            refine z_aload_n X (x := A 19) (show cdA 71 91 = some (.aload_n 0, 1, 0, 0, 0) from rfl) (List.Mem.tail _ (List.Mem.head _)) ?_
            refine s_getR X 19 (show cdA 71 92 = some (.getfield 25, 3, 7, 8, 0) from rfl) (by decide) rfl rfl ?_
            refine z_load_n X (x := x) (show cdA 71 95 = some (.iload_n 1, 1, 0, 0, 0) from rfl) (List.Mem.tail _ (List.Mem.tail _ (List.Mem.head _))) ?_
            refine z_aload_n X (x := A 19) (show cdA 71 96 = some (.aload_n 0, 1, 0, 0, 0) from rfl) (List.Mem.tail _ (List.Mem.head _)) ?_
            refine z_getI X 19 (show cdA 71 97 = some (.getfield 35, 3, 7, 9, 0) from rfl) (by decide) rfl rfl ?_
            have b38 : (0 : Int) ≤ iI s30 16 ∧ iI s30 16 ≤ 200 := Is30.1 16
            refine z_ast X 23 (show cdA 71 100 = some (.iastore, 1, 0, 0, 0) from rfl) (by decide) rfl (by first | exact p0.1 | omega) (show x < 8 by first | exact g12 | omega) (by decide) ?_
            obtain ⟨s39, hs39⟩ : ∃ x0, x0 = uC s30 19 (x).toNat (Int32.ofInt (iI s30 16)) := ⟨_, rfl⟩
            rw [← hs39]
            have Is39 : Bd s39 := by rw [hs39]; exact bd_C Is30 (show (0 : Int) ≤ (iI s30 16) ∧ (iI s30 16) ≤ 200 by first | exact ⟨b38.1, b38.2⟩ | omega) (rng_to _)
            have Fs39 := fm_C (i := (x).toNat) (x := Int32.ofInt (iI s30 16)) Gs30 (show 19 ∈ _ by decide)
            rw [← hs39] at Fs39
            have ws39_2 : iI s39 2 = iI s30 2 := by rw [hs39]; rfl
            have ws39_1 : iI s39 1 = iI s30 1 := by rw [hs39]; rfl
            have ws39_4 : iI s39 4 = iI s30 4 := by rw [hs39]; rfl
            have ws39_5 : iI s39 5 = iI s30 5 := by rw [hs39]; rfl
            have ws39_6 : iI s39 6 = iI s30 6 := by rw [hs39]; rfl
            have ws39_19 : iI s39 19 = iI s30 19 := by rw [hs39]; rfl
            have ws39_16 : iI s39 16 = iI s30 16 := by rw [hs39]; rfl
            have ws39_7 : iI s39 7 = iI s30 7 := by rw [hs39]; rfl
            have fs39 : Fm [] [19] s30 s39 := by rw [hs39]; exact fm_C (fm_rf _ _ _) (show 19 ∈ _ by decide)
            have JBYW_s39 : BYW B N s39 := BYW_fm fs39 (by decide) JBYW_s30
            have JTKS_s39 : TKS B N s39 := TKS_fm fs39 (by decide) JTKS_s30
            refine z_load_n X (x := e10) (show cdA 71 101 = some (.iload_n 2, 1, 0, 0, 0) from rfl) (List.Mem.head _) ?_
            refine z_if_eq X (t := 113) (show cdA 71 102 = some (.ifCond .eq 11, 3, 0, 0, 0) from rfl) (by decide) hrs9 (fun g40 => ?_) (fun g40 => ?_)
            ·
              exfalso
              omega
            ·
              refine z_aload_n X (x := A 19) (show cdA 71 105 = some (.aload_n 0, 1, 0, 0, 0) from rfl) (List.Mem.tail _ (List.Mem.head _)) ?_
              refine z_load_n X (x := x) (show cdA 71 106 = some (.iload_n 1, 1, 0, 0, 0) from rfl) (List.Mem.tail _ (List.Mem.tail _ (List.Mem.head _))) ?_
              refine s_putI X 19 (show cdA 71 107 = some (.putfield 38, 3, 7, 10, 0) from rfl) (by decide) rfl rfl (by decide) rfl rfl rfl ?_
              obtain ⟨s41, hs41⟩ : ∃ x0, x0 = uI s39 17 (Int32.ofInt x) := ⟨_, rfl⟩
              rw [← hs41]
              have Is41 : Bd s41 := by rw [hs41]; exact bd_I Is39 (show ((-1) : Int) ≤ x ∧ x ≤ 7 by first | exact ⟨oq_ca54ea22 p0.1, oq_78c639ed g12⟩ | omega) ⟨by first | exact oq_fa4e5087 p0.1 | omega, by first | exact oq_7bea7075 g12 | omega⟩
              have Fs41 := fm_I (x := Int32.ofInt x) Fs39 (show 17 ∈ _ by decide)
              rw [← hs41] at Fs41
              have vs41 : iI s41 17 = x := by rw [hs41]; exact iI_u ⟨by first | exact oq_fa4e5087 p0.1 | omega, by first | exact oq_7bea7075 g12 | omega⟩
              have ws41_2 : iI s41 2 = iI s39 2 := by rw [hs41]; rfl
              have ws41_1 : iI s41 1 = iI s39 1 := by rw [hs41]; rfl
              have ws41_4 : iI s41 4 = iI s39 4 := by rw [hs41]; rfl
              have ws41_5 : iI s41 5 = iI s39 5 := by rw [hs41]; rfl
              have ws41_6 : iI s41 6 = iI s39 6 := by rw [hs41]; rfl
              have ws41_19 : iI s41 19 = iI s39 19 := by rw [hs41]; rfl
              have ws41_16 : iI s41 16 = iI s39 16 := by rw [hs41]; rfl
              have ws41_7 : iI s41 7 = iI s39 7 := by rw [hs41]; rfl
              have fs41 : Fm [17] [] s39 s41 := by rw [hs41]; exact fm_I (fm_rf _ _ _) (show 17 ∈ _ by decide)
              have JBYW_s41 : BYW B N s41 := BYW_fm fs41 (by decide) JBYW_s39
              have JTKS_s41 : TKS B N s41 := TKS_fm fs41 (by decide) JTKS_s39
              refine z_goto X (t := 125) (show cdA 71 110 = some (.goto 15, 3, 0, 0, 0) from rfl) (by decide) ?_
              refine z_const X (show cdA 71 125 = some (.iconst 1, 1, 0, 0, 0) from rfl) ?_
              have hCL : CLC B N x s s41 1 := clc_of (c := s30) (Or.inl ⟨by omega, rfl⟩) (by omega) (by have h := hps20.2.2.2; rw [show iI s13 4 = sk B N (wdE B N (iI s 4)) by omega, show iI s13 19 = 0 by omega] at h; exact h) (Or.inr ⟨by omega, (by have h := hps30.2.2.2; rw [show e31 = 1 by omega] at h; exact h), by omega, by omega⟩)
              exact w_iret X.1 q hRt (nar_ret (by first | exact Or.inr (by decide) | omega)) (ax_d X (show cdA 71 126 = some (.ireturn, 1, 0, 0, 0) from rfl)) (Nat.zero_le _) (Nat.zero_le _) ⟨_, rfl, Is41, Fs41, JBYW_s41, JTKS_s41, 1, rfl, (by decide), ⟨by have := clc_e hCL; omega, by first | exact oq_4407eb3c ws41_1 ws41_2 ws39_1 ws39_2 hps30.2.1 | omega, by first | exact oq_4407eb3c ws41_2 ws41_4 ws39_2 ws39_4 hps30.2.2.1 | omega, hCL⟩⟩
          ·
            refine z_const X (show cdA 71 89 = some (.iconst 0, 1, 0, 0, 0) from rfl) ?_
            have hCL : CLC B N x s s30 0 := clc_of (c := s30) (Or.inl ⟨by omega, rfl⟩) (by omega) (by have h := hps20.2.2.2; rw [show iI s13 4 = sk B N (wdE B N (iI s 4)) by omega, show iI s13 19 = 0 by omega] at h; exact h) (Or.inr ⟨by omega, (by have h := hps30.2.2.2; rw [show e31 = 0 by omega] at h; exact h), by omega, by omega⟩)
            exact w_iret X.1 q hRt (nar_ret (by first | exact Or.inl (by decide) | omega)) (ax_d X (show cdA 71 90 = some (.ireturn, 1, 0, 0, 0) from rfl)) (Nat.zero_le _) (Nat.zero_le _) ⟨_, rfl, Is30, Gs30, JBYW_s30, JTKS_s30, 0, rfl, (by decide), ⟨by have := clc_e hCL; omega, by first | exact hps30.2.1 | omega, by first | exact hps30.2.2.1 | omega, hCL⟩⟩
        ·
          refine z_goto X (t := 78) (show cdA 71 68 = some (.goto 10, 3, 0, 0, 0) from rfl) (by decide) ?_
          refine z_const X (show cdA 71 78 = some (.iconst 0, 1, 0, 0, 0) from rfl) ?_
          have hCL : CLC B N x s s20 0 := clc_of (c := s20) (Or.inl ⟨by omega, rfl⟩) (by omega) (by have h := hps20.2.2.2; rw [show iI s13 4 = sk B N (wdE B N (iI s 4)) by omega, show iI s13 19 = 0 by omega] at h; exact h) (Or.inl ⟨by omega, rfl, by omega⟩)
          exact w_iret X.1 q hRt (nar_ret (by first | exact Or.inl (by decide) | omega)) (ax_d X (show cdA 71 79 = some (.ireturn, 1, 0, 0, 0) from rfl)) (Nat.zero_le _) (Nat.zero_le _) ⟨_, rfl, Is20, Gs20, JBYW_s20, JTKS_s20, 0, rfl, (by decide), ⟨by have := clc_e hCL; omega, by first | exact hps20.2.1 | omega, by first | exact hps20.2.2.1 | omega, hCL⟩⟩
    ·
      refine z_aload_n X (x := A 19) (show cdA 71 41 = some (.aload_n 0, 1, 0, 0, 0) from rfl) (List.Mem.tail _ (List.Mem.head _)) ?_
      refine s_getR X 19 (show cdA 71 42 = some (.getfield 31, 3, 7, 0, 0) from rfl) (by decide) rfl rfl ?_
      refine z_const X (show cdA 71 45 = some (.iconst 3, 1, 0, 0, 0) from rfl) ?_
      refine z_callV X 1 (rm := rmN 132) (As := [.int (Int32.ofInt 3)]) (st := []) (show cdA 71 46 = some (.invokevirtual 82, 3, 132, 0, 0) from rfl) rfl (by decide) rfl (by rw [E.1, E.2.1, E.2.2.1]; exact c10_refuse3 G Is9 (by first | exact ⟨by decide, by decide⟩ | omega)) ⟨by rw [E.2.2.2]; exact (show (rmN 132).frames + 1 ≤ (rmN 71).frames by decide), by rw [E.2.2.2]; exact (show 8 + (mNL (miB 132) + 11) + (rmN 132).locals ≤ (rmN 71).locals by decide), by rw [E.2.2.2]; exact (show 0 + (rmN 132).cells ≤ (rmN 71).cells by decide), by rw [E.2.2.2]; exact (show 0 + (rmN 132).slots ≤ (rmN 71).slots by decide)⟩ (Nat.le_of_ble_eq_true rfl) (fun vv s42 hq => ?_) (fun ee s42 hq => ?_)
      rotate_left
      · obtain ⟨Is42, Fs42, e43, hv, hrs42, hps42⟩ := hq; cases hv
      obtain ⟨Is42, Fs42, e43, hv, hrs42, hps42⟩ := hq
      cases hv
      have Gs42 := fm_ts Gs9 Fs42 (by decide) (by decide)
      have JBYW_s42 : BYW B N s42 := BYW_fm Fs42 (by decide) JBYW_s9
      have JTKS_s42 : TKS B N s42 := TKS_fm Fs42 (by decide) JTKS_s9
      have ws42_2 : iI s42 2 = iI s9 2 := fm_i Fs42 (by decide)
      have ws42_1 : iI s42 1 = iI s9 1 := fm_i Fs42 (by decide)
      have ws42_4 : iI s42 4 = iI s9 4 := fm_i Fs42 (by decide)
      have ws42_5 : iI s42 5 = iI s9 5 := fm_i Fs42 (by decide)
      have ws42_6 : iI s42 6 = iI s9 6 := fm_i Fs42 (by decide)
      have ws42_19 : iI s42 19 = iI s9 19 := fm_i Fs42 (by decide)
      have ws42_16 : iI s42 16 = iI s9 16 := fm_i Fs42 (by decide)
      have b44 : (0 : Int) ≤ iI s42 7 ∧ iI s42 7 ≤ 9 := Is42.1 7
      show WS k 49 [(2, .int (Int32.ofInt e10)), (0, .ref (A 19)), (1, .int (Int32.ofInt x))] [.int (Int32.ofInt e43)] (Wd A dT s42) 0 0
      have hCL : CLC B N x s s42 e43 := by rw [show e43 = 0 by omega]; exact clc_3 (by omega) (by omega) (by omega)
      exact w_iret X.1 q hRt (nar_ret (by first | exact Or.inl (hps42.1) | omega)) (ax_d X (show cdA 71 49 = some (.ireturn, 1, 0, 0, 0) from rfl)) (Nat.zero_le _) (Nat.zero_le _) ⟨_, rfl, Is42, Gs42, JBYW_s42, JTKS_s42, e43, rfl, hrs42, ⟨by have := clc_e hCL; omega, by first | exact oq_4407eb3c ws42_1 ws42_2 ws9_1 ws9_2 p1 | omega, by first | exact oq_4407eb3c ws42_2 ws42_4 ws9_2 ws9_4 p2 | omega, hCL⟩⟩
  ·
    refine z_aload_n X (x := A 19) (show cdA 71 14 = some (.aload_n 0, 1, 0, 0, 0) from rfl) (List.Mem.tail _ (List.Mem.head _)) ?_
    refine s_getR X 19 (show cdA 71 15 = some (.getfield 31, 3, 7, 0, 0) from rfl) (by decide) rfl rfl ?_
    obtain ⟨tx80, q80, hR80, hS80⟩ := GT (80, [106, 111, 105, 110]) (by decide)
    refine w_ldcK X (show vk_R (kOwn k) 80 tx80 q80 (kS0 k) by rw [E.2.1, X.2.1.2.1]; exact hR80) (show decode (kCc k) 18 = .ok (.ldc 80, 2) by rw [X.2.1.1]; decide +kernel) ?_
    refine z_callV X 1 (rm := rmN 131) (As := [.ref q80]) (st := []) (show cdA 71 20 = some (.invokevirtual 76, 3, 131, 0, 0) from rfl) rfl (by decide) rfl (by rw [E.1, E.2.1, E.2.2.1]; exact c10_says3 G SF hS80 (by decide) Is9 JBYW_s9 JTKS_s9 (by first | exact oq_e7b9ecab ws9_2 ws9_4 p2 | omega)) ⟨by rw [E.2.2.2]; exact (show (rmN 131).frames + 1 ≤ (rmN 71).frames by decide), by rw [E.2.2.2]; exact (show 8 + (mNL (miB 131) + 11) + (rmN 131).locals ≤ (rmN 71).locals by decide), by rw [E.2.2.2]; exact (show 0 + (rmN 131).cells ≤ (rmN 71).cells by decide), by rw [E.2.2.2]; exact (show 0 + (rmN 131).slots ≤ (rmN 71).slots by decide)⟩ (Nat.le_of_ble_eq_true rfl) (fun vv s45 hq => ?_) (fun ee s45 hq => ?_)
    rotate_left
    · obtain ⟨Is45, Fs45, JBYW_s45, JTKS_s45, e46, hv, hrs45, hps45⟩ := hq; cases hv
    obtain ⟨Is45, Fs45, JBYW_s45, JTKS_s45, e46, hv, hrs45, hps45⟩ := hq
    cases hv
    have Gs45 := fm_ts Gs9 Fs45 (by decide) (by decide)
    have JBYW_s45 : BYW B N s45 := BYW_fm Fs45 (by decide) JBYW_s9
    have JTKS_s45 : TKS B N s45 := TKS_fm Fs45 (by decide) JTKS_s9
    have ws45_2 : iI s45 2 = iI s9 2 := fm_i Fs45 (by decide)
    have ws45_1 : iI s45 1 = iI s9 1 := fm_i Fs45 (by decide)
    have ws45_4 : iI s45 4 = iI s9 4 := fm_i Fs45 (by decide)
    have ws45_5 : iI s45 5 = iI s9 5 := fm_i Fs45 (by decide)
    have ws45_6 : iI s45 6 = iI s9 6 := fm_i Fs45 (by decide)
    have ws45_19 : iI s45 19 = iI s9 19 := fm_i Fs45 (by decide)
    have ws45_16 : iI s45 16 = iI s9 16 := fm_i Fs45 (by decide)
    have ws45_7 : iI s45 7 = iI s9 7 := fm_i Fs45 (by decide)
    have hws45 : (e46 = 1 ∧ whV B N (iI s 4) = 208022) ∨ (e46 = 0 ∧ whV B N (iI s 4) ≠ 208022) := by have h := hps45; rw [show iI s9 4 = iI s 4 by omega, show whL [106, 111, 105, 110] 0 = 208022 by decide] at h; exact h
    show WS k 23 [(2, .int (Int32.ofInt e10)), (0, .ref (A 19)), (1, .int (Int32.ofInt x))] [.int (Int32.ofInt e46)] (Wd A dT s45) 0 0
    refine z_if_ne X (t := 35) (show cdA 71 23 = some (.ifCond .ne 12, 3, 1, 0, 0) from rfl) (by decide) hrs45 (fun g47 => ?_) (fun g47 => ?_)
    ·
      refine z_load_n X (x := x) (show cdA 71 35 = some (.iload_n 1, 1, 0, 0, 0) from rfl) (List.Mem.tail _ (List.Mem.tail _ (List.Mem.head _))) ?_
      refine z_bipush X (show cdA 71 36 = some (.bipush 8, 2, 0, 0, 8) from rfl) ?_
      refine z_icmp_lt X (t := 50) (show cdA 71 38 = some (.if_icmp .lt 12, 3, 2, 0, 0) from rfl) (by decide) ⟨by first | exact oq_fa4e5087 p0.1 | omega, by first | exact oq_d3f5d874 p0.2 | omega⟩ (by decide) (fun g48 => ?_) (fun g48 => ?_)
      ·
        have hwl : whV B N (iI s 4) = 247162 ∨ whV B N (iI s 4) = 208022 := by omega
        have hk3 : iI s 5 = -3 := Classical.byContradiction (fun q => by have := hwd.2 q; omega)
        have ha3 := (hwd.1 hk3).1
        have hg3 := (hwd.1 hk3).2
        have hsk := sk_le (B := B) (N := N) (p := wdE B N (iI s 4))
        refine z_aload_n X (x := A 19) (show cdA 71 50 = some (.aload_n 0, 1, 0, 0, 0) from rfl) (List.Mem.tail _ (List.Mem.head _)) ?_
        refine s_getR X 19 (show cdA 71 51 = some (.getfield 31, 3, 7, 0, 0) from rfl) (by decide) rfl rfl ?_
        refine z_callV X 1 (rm := rmN 129) (As := []) (st := []) (show cdA 71 54 = some (.invokevirtual 85, 3, 129, 0, 0) from rfl) rfl (by decide) rfl (by rw [E.1, E.2.1, E.2.2.1]; exact c10_step3 G Is45 JBYW_s45 (by first | exact oq_4407eb3c ws45_1 ws45_2 ws9_1 ws9_2 p1 | omega)) ⟨by rw [E.2.2.2]; exact (show (rmN 129).frames + 1 ≤ (rmN 71).frames by decide), by rw [E.2.2.2]; exact (show 8 + (mNL (miB 129) + 11) + (rmN 129).locals ≤ (rmN 71).locals by decide), by rw [E.2.2.2]; exact (show 0 + (rmN 129).cells ≤ (rmN 71).cells by decide), by rw [E.2.2.2]; exact (show 0 + (rmN 129).slots ≤ (rmN 71).slots by decide)⟩ (Nat.le_of_ble_eq_true rfl) (fun vv s49 hq => ?_) (fun ee s49 hq => ?_)
        rotate_left
        · obtain ⟨Is49, Fs49, JBYW_s49, JTKS_s49, hv, hps49⟩ := hq; cases hv
        obtain ⟨Is49, Fs49, JBYW_s49, JTKS_s49, hv, hps49⟩ := hq
        cases hv
        have Gs49 := fm_ts Gs45 Fs49 (by decide) (by decide)
        have JBYW_s49 : BYW B N s49 := BYW_fm Fs49 (by decide) JBYW_s45
        have b51 : (0 : Int) ≤ iI s49 2 ∧ iI s49 2 ≤ 200 := Is49.1 2
        have ws49_1 : iI s49 1 = iI s45 1 := fm_i Fs49 (by decide)
        have b52 : (0 : Int) ≤ iI s49 4 ∧ iI s49 4 ≤ 200 := Is49.1 4
        have b53 : ((-3) : Int) ≤ iI s49 5 ∧ iI s49 5 ≤ 255 := Is49.1 5
        have b54 : (0 : Int) ≤ iI s49 6 ∧ iI s49 6 ≤ 100000 := Is49.1 6
        have ws49_19 : iI s49 19 = iI s45 19 := fm_i Fs49 (by decide)
        have ws49_16 : iI s49 16 = iI s45 16 := fm_i Fs49 (by decide)
        have ws49_7 : iI s49 7 = iI s45 7 := fm_i Fs49 (by decide)
        show WS k 57 [(2, .int (Int32.ofInt e10)), (0, .ref (A 19)), (1, .int (Int32.ofInt x))] [] (Wd A dT s49) 0 0
        have hs1 : iI s49 4 = sk B N (wdE B N (iI s 4)) := by rw [hps49.2.2.1, show iI s45 2 = wdE B N (iI s 4) by omega]
        refine z_load_n X (x := e10) (show cdA 71 57 = some (.iload_n 2, 1, 0, 0, 0) from rfl) (List.Mem.head _) ?_
        refine z_if_eq X (t := 71) (show cdA 71 58 = some (.ifCond .eq 13, 3, 0, 0, 0) from rfl) (by decide) hrs9 (fun g55 => ?_) (fun g55 => ?_)
        ·
          refine z_aload_n X (x := A 19) (show cdA 71 71 = some (.aload_n 0, 1, 0, 0, 0) from rfl) (List.Mem.tail _ (List.Mem.head _)) ?_
          refine z_callV X 19 (rm := (rkR (32 + 3 * (7) + 2))) (As := []) (st := []) (show cdA 71 72 = some (.invokevirtual 92, 3, 72, 0, 0) from rfl) rfl (by decide) rfl (by rw [E.1, E.2.1, E.2.2.1]; exact (c7_eithr3 G (B := B) (N := N) SF GT 7).2.2 Is49 JBYW_s49 JTKS_s49 (by first | exact hps49.1 | omega) (by first | exact hps49.2.1 | omega) (by first | exact oq_f6b99f75 ws49_19 ws45_19 ws9_19 b6.1 | omega) (by first | exact oq_e2534179 ws49_16 hps49.2.2.2 ws45_16 ws45_2 ws9_16 ws9_2 p4 p2 | omega)) ⟨by rw [E.2.2.2]; exact (show (12 + (32 + 3 * (7) + 2)) + 1 ≤ 68 from oq_2af1bc43), by rw [E.2.2.2]; exact (show 8 + (2 + 11) + (500 + 45 * (32 + 3 * (7) + 2)) ≤ 2996 from oq_3d00aaab), by rw [E.2.2.2]; exact Nat.le_refl 0, by rw [E.2.2.2]; exact Nat.le_refl 0⟩ (Nat.le_of_ble_eq_true rfl) (fun vv s56 hq => ?_) (fun ee s56 hq => ?_)
          rotate_left
          · obtain ⟨Is56, Fs56, JBYW_s56, JTKS_s56, e57, hv, hrs56, hps56⟩ := hq; cases hv
          obtain ⟨Is56, Fs56, JBYW_s56, JTKS_s56, e57, hv, hrs56, hps56⟩ := hq
          cases hv
          have Gs56 := fm_ts Gs49 Fs56 (by decide) (by decide)
          have JBYW_s56 : BYW B N s56 := BYW_fm Fs56 (by decide) JBYW_s49
          have b58 : (0 : Int) ≤ iI s56 2 ∧ iI s56 2 ≤ 200 := Is56.1 2
          have ws56_1 : iI s56 1 = iI s49 1 := fm_i Fs56 (by decide)
          have b59 : (0 : Int) ≤ iI s56 4 ∧ iI s56 4 ≤ 200 := Is56.1 4
          have b60 : ((-3) : Int) ≤ iI s56 5 ∧ iI s56 5 ≤ 255 := Is56.1 5
          have b61 : (0 : Int) ≤ iI s56 6 ∧ iI s56 6 ≤ 100000 := Is56.1 6
          have b62 : (0 : Int) ≤ iI s56 19 ∧ iI s56 19 ≤ 6 := Is56.1 19
          have b63 : (0 : Int) ≤ iI s56 16 ∧ iI s56 16 ≤ 200 := Is56.1 16
          have b64 : (0 : Int) ≤ iI s56 7 ∧ iI s56 7 ≤ 9 := Is56.1 7
          show WS k 75 [(2, .int (Int32.ofInt e10)), (0, .ref (A 19)), (1, .int (Int32.ofInt x))] [.int (Int32.ofInt e57)] (Wd A dT s56) 0 0
          refine z_if_ne X (t := 80) (show cdA 71 75 = some (.ifCond .ne 5, 3, 1, 0, 0) from rfl) (by decide) hrs56 (fun g65 => ?_) (fun g65 => ?_)
          ·
            refine z_aload_n X (x := A 19) (show cdA 71 80 = some (.aload_n 0, 1, 0, 0, 0) from rfl) (List.Mem.tail _ (List.Mem.head _)) ?_
            refine z_bipush X (show cdA 71 81 = some (.bipush 59, 2, 0, 0, 59) from rfl) ?_
            refine z_callV X 19 (rm := rmN 81) (As := [.int (Int32.ofInt 59)]) (st := []) (show cdA 71 83 = some (.invokevirtual 95, 3, 81, 0, 0) from rfl) rfl (by decide) rfl (by rw [E.1, E.2.1, E.2.2.1]; exact c7_pass3 G Is56 JBYW_s56 JTKS_s56 (by first | exact ⟨by decide, by decide⟩ | omega) (by first | exact Or.inr (by decide) | omega) (by first | exact Or.inl (by decide) | omega) (by first | exact hps56.2.1 | omega) (by first | exact hps56.2.2.1 | omega)) ⟨by rw [E.2.2.2]; exact (show (rmN 81).frames + 1 ≤ (rmN 71).frames by decide), by rw [E.2.2.2]; exact (show 8 + (mNL (miB 81) + 11) + (rmN 81).locals ≤ (rmN 71).locals by decide), by rw [E.2.2.2]; exact (show 0 + (rmN 81).cells ≤ (rmN 71).cells by decide), by rw [E.2.2.2]; exact (show 0 + (rmN 81).slots ≤ (rmN 71).slots by decide)⟩ (Nat.le_of_ble_eq_true rfl) (fun vv s66 hq => ?_) (fun ee s66 hq => ?_)
            rotate_left
            · obtain ⟨Is66, Fs66, JBYW_s66, JTKS_s66, e67, hv, hrs66, hps66⟩ := hq; cases hv
            obtain ⟨Is66, Fs66, JBYW_s66, JTKS_s66, e67, hv, hrs66, hps66⟩ := hq
            cases hv
            have Gs66 := fm_ts Gs56 Fs66 (by decide) (by decide)
            have JBYW_s66 : BYW B N s66 := BYW_fm Fs66 (by decide) JBYW_s56
            have b68 : (0 : Int) ≤ iI s66 2 ∧ iI s66 2 ≤ 200 := Is66.1 2
            have ws66_1 : iI s66 1 = iI s56 1 := fm_i Fs66 (by decide)
            have b69 : (0 : Int) ≤ iI s66 4 ∧ iI s66 4 ≤ 200 := Is66.1 4
            have b70 : ((-3) : Int) ≤ iI s66 5 ∧ iI s66 5 ≤ 255 := Is66.1 5
            have b71 : (0 : Int) ≤ iI s66 6 ∧ iI s66 6 ≤ 100000 := Is66.1 6
            have ws66_19 : iI s66 19 = iI s56 19 := fm_i Fs66 (by decide)
            have ws66_16 : iI s66 16 = iI s56 16 := fm_i Fs66 (by decide)
            have b72 : (0 : Int) ≤ iI s66 7 ∧ iI s66 7 ≤ 9 := Is66.1 7
            show WS k 86 [(2, .int (Int32.ofInt e10)), (0, .ref (A 19)), (1, .int (Int32.ofInt x))] [.int (Int32.ofInt e67)] (Wd A dT s66) 0 0
            have hpg : e67 ≠ 0 → iI s56 4 < iI s66 4 ∧ iI s66 4 ≤ N := fun h => pss_gt hps66.2.2.2 h
            refine z_if_ne X (t := 91) (show cdA 71 86 = some (.ifCond .ne 5, 3, 1, 0, 0) from rfl) (by decide) hrs66 (fun g73 => ?_) (fun g73 => ?_)
            ·
              refine z_aload_n X (x := A 19) (show cdA 71 91 = some (.aload_n 0, 1, 0, 0, 0) from rfl) (List.Mem.tail _ (List.Mem.head _)) ?_
              refine s_getR X 19 (show cdA 71 92 = some (.getfield 25, 3, 7, 8, 0) from rfl) (by decide) rfl rfl ?_
              refine z_load_n X (x := x) (show cdA 71 95 = some (.iload_n 1, 1, 0, 0, 0) from rfl) (List.Mem.tail _ (List.Mem.tail _ (List.Mem.head _))) ?_
              refine z_aload_n X (x := A 19) (show cdA 71 96 = some (.aload_n 0, 1, 0, 0, 0) from rfl) (List.Mem.tail _ (List.Mem.head _)) ?_
              refine z_getI X 19 (show cdA 71 97 = some (.getfield 35, 3, 7, 9, 0) from rfl) (by decide) rfl rfl ?_
              have b74 : (0 : Int) ≤ iI s66 16 ∧ iI s66 16 ≤ 200 := Is66.1 16
              refine z_ast X 23 (show cdA 71 100 = some (.iastore, 1, 0, 0, 0) from rfl) (by decide) rfl (by first | exact p0.1 | omega) (show x < 8 by first | exact g48 | omega) (by decide) ?_
              obtain ⟨s75, hs75⟩ : ∃ x0, x0 = uC s66 19 (x).toNat (Int32.ofInt (iI s66 16)) := ⟨_, rfl⟩
              rw [← hs75]
              have Is75 : Bd s75 := by rw [hs75]; exact bd_C Is66 (show (0 : Int) ≤ (iI s66 16) ∧ (iI s66 16) ≤ 200 by first | exact ⟨b74.1, b74.2⟩ | omega) (rng_to _)
              have Fs75 := fm_C (i := (x).toNat) (x := Int32.ofInt (iI s66 16)) Gs66 (show 19 ∈ _ by decide)
              rw [← hs75] at Fs75
              have ws75_2 : iI s75 2 = iI s66 2 := by rw [hs75]; rfl
              have ws75_1 : iI s75 1 = iI s66 1 := by rw [hs75]; rfl
              have ws75_4 : iI s75 4 = iI s66 4 := by rw [hs75]; rfl
              have ws75_5 : iI s75 5 = iI s66 5 := by rw [hs75]; rfl
              have ws75_6 : iI s75 6 = iI s66 6 := by rw [hs75]; rfl
              have ws75_19 : iI s75 19 = iI s66 19 := by rw [hs75]; rfl
              have ws75_16 : iI s75 16 = iI s66 16 := by rw [hs75]; rfl
              have ws75_7 : iI s75 7 = iI s66 7 := by rw [hs75]; rfl
              have fs75 : Fm [] [19] s66 s75 := by rw [hs75]; exact fm_C (fm_rf _ _ _) (show 19 ∈ _ by decide)
              have JBYW_s75 : BYW B N s75 := BYW_fm fs75 (by decide) JBYW_s66
              have JTKS_s75 : TKS B N s75 := TKS_fm fs75 (by decide) JTKS_s66
              refine z_load_n X (x := e10) (show cdA 71 101 = some (.iload_n 2, 1, 0, 0, 0) from rfl) (List.Mem.head _) ?_
              refine z_if_eq X (t := 113) (show cdA 71 102 = some (.ifCond .eq 11, 3, 0, 0, 0) from rfl) (by decide) hrs9 (fun g76 => ?_) (fun g76 => ?_)
              ·
                refine z_aload_n X (x := A 19) (show cdA 71 113 = some (.aload_n 0, 1, 0, 0, 0) from rfl) (List.Mem.tail _ (List.Mem.head _)) ?_
                refine w_dup X.1 (ax_d X (show cdA 71 114 = some (.dup, 1, 0, 0, 0) from rfl)) rfl ?_
                refine z_getI X 19 (show cdA 71 115 = some (.getfield 41, 3, 7, 11, 0) from rfl) (by decide) rfl rfl ?_
                have b77 : ((-2147483648) : Int) ≤ iI s75 18 ∧ iI s75 18 ≤ 2147483647 := Is75.1 18
                refine z_const X (show cdA 71 118 = some (.iconst 1, 1, 0, 0, 0) from rfl) ?_
                refine z_load_n X (x := x) (show cdA 71 119 = some (.iload_n 1, 1, 0, 0, 0) from rfl) (List.Mem.tail _ (List.Mem.tail _ (List.Mem.head _))) ?_
                refine z_bshl X (show cdA 71 120 = some (.ishl, 1, 0, 0, 0) from rfl) ?_
                refine z_any (fun y78 hy78 => ?_)
                refine z_bor X (show cdA 71 121 = some (.ior, 1, 0, 0, 0) from rfl) ?_
                refine z_any (fun y79 hy79 => ?_)
                refine s_putI X 19 (show cdA 71 122 = some (.putfield 41, 3, 7, 11, 0) from rfl) (by decide) rfl rfl (by decide) rfl rfl rfl ?_
                obtain ⟨s80, hs80⟩ : ∃ x0, x0 = uI s75 18 (Int32.ofInt y79) := ⟨_, rfl⟩
                rw [← hs80]
                have Is80 : Bd s80 := by rw [hs80]; exact bd_I Is75 (show ((-2147483648) : Int) ≤ y79 ∧ y79 ≤ 2147483647 by first | exact ⟨hy79.1, hy79.2⟩ | omega) hy79
                have Fs80 := fm_I (x := Int32.ofInt y79) Fs75 (show 18 ∈ _ by decide)
                rw [← hs80] at Fs80
                have vs80 : iI s80 18 = y79 := by rw [hs80]; exact iI_u hy79
                have ws80_2 : iI s80 2 = iI s75 2 := by rw [hs80]; rfl
                have ws80_1 : iI s80 1 = iI s75 1 := by rw [hs80]; rfl
                have ws80_4 : iI s80 4 = iI s75 4 := by rw [hs80]; rfl
                have ws80_5 : iI s80 5 = iI s75 5 := by rw [hs80]; rfl
                have ws80_6 : iI s80 6 = iI s75 6 := by rw [hs80]; rfl
                have ws80_19 : iI s80 19 = iI s75 19 := by rw [hs80]; rfl
                have ws80_16 : iI s80 16 = iI s75 16 := by rw [hs80]; rfl
                have ws80_7 : iI s80 7 = iI s75 7 := by rw [hs80]; rfl
                have fs80 : Fm [18] [] s75 s80 := by rw [hs80]; exact fm_I (fm_rf _ _ _) (show 18 ∈ _ by decide)
                have JBYW_s80 : BYW B N s80 := BYW_fm fs80 (by decide) JBYW_s75
                have JTKS_s80 : TKS B N s80 := TKS_fm fs80 (by decide) JTKS_s75
                refine z_const X (show cdA 71 125 = some (.iconst 1, 1, 0, 0, 0) from rfl) ?_
                have hCL : CLC B N x s s80 1 := clc_of (c := s66) (Or.inr ⟨by omega, rfl⟩) (by omega) (by have h := hps56.2.2.2; rw [show iI s49 4 = sk B N (wdE B N (iI s 4)) by omega, show iI s49 19 = 0 by omega] at h; exact h) (Or.inr ⟨by omega, (by have h := hps66.2.2.2; rw [show e67 = 1 by omega] at h; exact h), by omega, by omega⟩)
                exact w_iret X.1 q hRt (nar_ret (by first | exact Or.inr (by decide) | omega)) (ax_d X (show cdA 71 126 = some (.ireturn, 1, 0, 0, 0) from rfl)) (Nat.zero_le _) (Nat.zero_le _) ⟨_, rfl, Is80, Fs80, JBYW_s80, JTKS_s80, 1, rfl, (by decide), ⟨by have := clc_e hCL; omega, by first | exact oq_4407eb3c ws80_1 ws80_2 ws75_1 ws75_2 hps66.2.1 | omega, by first | exact oq_4407eb3c ws80_2 ws80_4 ws75_2 ws75_4 hps66.2.2.1 | omega, hCL⟩⟩
              ·
                exfalso
                omega
            ·
              refine z_const X (show cdA 71 89 = some (.iconst 0, 1, 0, 0, 0) from rfl) ?_
              have hCL : CLC B N x s s66 0 := clc_of (c := s66) (Or.inr ⟨by omega, rfl⟩) (by omega) (by have h := hps56.2.2.2; rw [show iI s49 4 = sk B N (wdE B N (iI s 4)) by omega, show iI s49 19 = 0 by omega] at h; exact h) (Or.inr ⟨by omega, (by have h := hps66.2.2.2; rw [show e67 = 0 by omega] at h; exact h), by omega, by omega⟩)
              exact w_iret X.1 q hRt (nar_ret (by first | exact Or.inl (by decide) | omega)) (ax_d X (show cdA 71 90 = some (.ireturn, 1, 0, 0, 0) from rfl)) (Nat.zero_le _) (Nat.zero_le _) ⟨_, rfl, Is66, Gs66, JBYW_s66, JTKS_s66, 0, rfl, (by decide), ⟨by have := clc_e hCL; omega, by first | exact hps66.2.1 | omega, by first | exact hps66.2.2.1 | omega, hCL⟩⟩
          ·
            refine z_const X (show cdA 71 78 = some (.iconst 0, 1, 0, 0, 0) from rfl) ?_
            have hCL : CLC B N x s s56 0 := clc_of (c := s56) (Or.inr ⟨by omega, rfl⟩) (by omega) (by have h := hps56.2.2.2; rw [show iI s49 4 = sk B N (wdE B N (iI s 4)) by omega, show iI s49 19 = 0 by omega] at h; exact h) (Or.inl ⟨by omega, rfl, by omega⟩)
            exact w_iret X.1 q hRt (nar_ret (by first | exact Or.inl (by decide) | omega)) (ax_d X (show cdA 71 79 = some (.ireturn, 1, 0, 0, 0) from rfl)) (Nat.zero_le _) (Nat.zero_le _) ⟨_, rfl, Is56, Gs56, JBYW_s56, JTKS_s56, 0, rfl, (by decide), ⟨by have := clc_e hCL; omega, by first | exact hps56.2.1 | omega, by first | exact hps56.2.2.1 | omega, hCL⟩⟩
        ·
          exfalso
          omega
      ·
        refine z_aload_n X (x := A 19) (show cdA 71 41 = some (.aload_n 0, 1, 0, 0, 0) from rfl) (List.Mem.tail _ (List.Mem.head _)) ?_
        refine s_getR X 19 (show cdA 71 42 = some (.getfield 31, 3, 7, 0, 0) from rfl) (by decide) rfl rfl ?_
        refine z_const X (show cdA 71 45 = some (.iconst 3, 1, 0, 0, 0) from rfl) ?_
        refine z_callV X 1 (rm := rmN 132) (As := [.int (Int32.ofInt 3)]) (st := []) (show cdA 71 46 = some (.invokevirtual 82, 3, 132, 0, 0) from rfl) rfl (by decide) rfl (by rw [E.1, E.2.1, E.2.2.1]; exact c10_refuse3 G Is45 (by first | exact ⟨by decide, by decide⟩ | omega)) ⟨by rw [E.2.2.2]; exact (show (rmN 132).frames + 1 ≤ (rmN 71).frames by decide), by rw [E.2.2.2]; exact (show 8 + (mNL (miB 132) + 11) + (rmN 132).locals ≤ (rmN 71).locals by decide), by rw [E.2.2.2]; exact (show 0 + (rmN 132).cells ≤ (rmN 71).cells by decide), by rw [E.2.2.2]; exact (show 0 + (rmN 132).slots ≤ (rmN 71).slots by decide)⟩ (Nat.le_of_ble_eq_true rfl) (fun vv s81 hq => ?_) (fun ee s81 hq => ?_)
        rotate_left
        · obtain ⟨Is81, Fs81, e82, hv, hrs81, hps81⟩ := hq; cases hv
        obtain ⟨Is81, Fs81, e82, hv, hrs81, hps81⟩ := hq
        cases hv
        have Gs81 := fm_ts Gs45 Fs81 (by decide) (by decide)
        have JBYW_s81 : BYW B N s81 := BYW_fm Fs81 (by decide) JBYW_s45
        have JTKS_s81 : TKS B N s81 := TKS_fm Fs81 (by decide) JTKS_s45
        have ws81_2 : iI s81 2 = iI s45 2 := fm_i Fs81 (by decide)
        have ws81_1 : iI s81 1 = iI s45 1 := fm_i Fs81 (by decide)
        have ws81_4 : iI s81 4 = iI s45 4 := fm_i Fs81 (by decide)
        have ws81_5 : iI s81 5 = iI s45 5 := fm_i Fs81 (by decide)
        have ws81_6 : iI s81 6 = iI s45 6 := fm_i Fs81 (by decide)
        have ws81_19 : iI s81 19 = iI s45 19 := fm_i Fs81 (by decide)
        have ws81_16 : iI s81 16 = iI s45 16 := fm_i Fs81 (by decide)
        have b83 : (0 : Int) ≤ iI s81 7 ∧ iI s81 7 ≤ 9 := Is81.1 7
        show WS k 49 [(2, .int (Int32.ofInt e10)), (0, .ref (A 19)), (1, .int (Int32.ofInt x))] [.int (Int32.ofInt e82)] (Wd A dT s81) 0 0
        have hCL : CLC B N x s s81 e82 := by rw [show e82 = 0 by omega]; exact clc_3 (by omega) (by omega) (by omega)
        exact w_iret X.1 q hRt (nar_ret (by first | exact Or.inl (hps81.1) | omega)) (ax_d X (show cdA 71 49 = some (.ireturn, 1, 0, 0, 0) from rfl)) (Nat.zero_le _) (Nat.zero_le _) ⟨_, rfl, Is81, Gs81, JBYW_s81, JTKS_s81, e82, rfl, hrs81, ⟨by have := clc_e hCL; omega, by first | exact oq_72ebe5a4 ws81_1 ws81_2 ws45_1 ws45_2 ws9_1 ws9_2 p1 | omega, by first | exact oq_7f1a346e ws81_4 ws81_2 ws45_4 ws45_2 ws9_4 ws9_2 p2 | omega, hCL⟩⟩
    ·
      refine z_aload_n X (x := A 19) (show cdA 71 26 = some (.aload_n 0, 1, 0, 0, 0) from rfl) (List.Mem.tail _ (List.Mem.head _)) ?_
      refine s_getR X 19 (show cdA 71 27 = some (.getfield 31, 3, 7, 0, 0) from rfl) (by decide) rfl rfl ?_
      refine z_const X (show cdA 71 30 = some (.iconst 1, 1, 0, 0, 0) from rfl) ?_
      refine z_callV X 1 (rm := rmN 132) (As := [.int (Int32.ofInt 1)]) (st := []) (show cdA 71 31 = some (.invokevirtual 82, 3, 132, 0, 0) from rfl) rfl (by decide) rfl (by rw [E.1, E.2.1, E.2.2.1]; exact c10_refuse3 G Is45 (by first | exact ⟨by decide, by decide⟩ | omega)) ⟨by rw [E.2.2.2]; exact (show (rmN 132).frames + 1 ≤ (rmN 71).frames by decide), by rw [E.2.2.2]; exact (show 8 + (mNL (miB 132) + 11) + (rmN 132).locals ≤ (rmN 71).locals by decide), by rw [E.2.2.2]; exact (show 0 + (rmN 132).cells ≤ (rmN 71).cells by decide), by rw [E.2.2.2]; exact (show 0 + (rmN 132).slots ≤ (rmN 71).slots by decide)⟩ (Nat.le_of_ble_eq_true rfl) (fun vv s84 hq => ?_) (fun ee s84 hq => ?_)
      rotate_left
      · obtain ⟨Is84, Fs84, e85, hv, hrs84, hps84⟩ := hq; cases hv
      obtain ⟨Is84, Fs84, e85, hv, hrs84, hps84⟩ := hq
      cases hv
      have Gs84 := fm_ts Gs45 Fs84 (by decide) (by decide)
      have JBYW_s84 : BYW B N s84 := BYW_fm Fs84 (by decide) JBYW_s45
      have JTKS_s84 : TKS B N s84 := TKS_fm Fs84 (by decide) JTKS_s45
      have ws84_2 : iI s84 2 = iI s45 2 := fm_i Fs84 (by decide)
      have ws84_1 : iI s84 1 = iI s45 1 := fm_i Fs84 (by decide)
      have ws84_4 : iI s84 4 = iI s45 4 := fm_i Fs84 (by decide)
      have ws84_5 : iI s84 5 = iI s45 5 := fm_i Fs84 (by decide)
      have ws84_6 : iI s84 6 = iI s45 6 := fm_i Fs84 (by decide)
      have ws84_19 : iI s84 19 = iI s45 19 := fm_i Fs84 (by decide)
      have ws84_16 : iI s84 16 = iI s45 16 := fm_i Fs84 (by decide)
      have b86 : (0 : Int) ≤ iI s84 7 ∧ iI s84 7 ≤ 9 := Is84.1 7
      show WS k 34 [(2, .int (Int32.ofInt e10)), (0, .ref (A 19)), (1, .int (Int32.ofInt x))] [.int (Int32.ofInt e85)] (Wd A dT s84) 0 0
      have hCL : CLC B N x s s84 e85 := by rw [show e85 = 0 by omega]; exact clc_1 (by omega) (by omega) (by omega)
      exact w_iret X.1 q hRt (nar_ret (by first | exact Or.inl (hps84.1) | omega)) (ax_d X (show cdA 71 34 = some (.ireturn, 1, 0, 0, 0) from rfl)) (Nat.zero_le _) (Nat.zero_le _) ⟨_, rfl, Is84, Gs84, JBYW_s84, JTKS_s84, e85, rfl, hrs84, ⟨by have := clc_e hCL; omega, by first | exact oq_72ebe5a4 ws84_1 ws84_2 ws45_1 ws45_2 ws9_1 ws9_2 p1 | omega, by first | exact oq_7f1a346e ws84_4 ws84_2 ws45_4 ws45_2 ws9_4 ws9_2 p2 | omega, hCL⟩⟩
theorem c7_adopt363 (G : GX l s0 D tys a0 dT) (I : Bd s) {x : Int} (p0 : 0 ≤ x ∧ x ≤ 8) {k : kx_T} (X : AX k 69 dT) (E : kL k = l ∧ kS0 k = s0 ∧ kD k = D ∧ kR k = rmN 69) (hRt : (kMe k).sig.returnType = rtA 69) {KK : mb_O → va_W → Prop} {mc ms : Nat} (q : kx_end k KK mc ms) (hK : ∀ t : PS, Bd t → Fm [12, 13, 14, 15] [] s t → iI t 12 = x → KK (.inl none) (Wd A dT t)) : WS k 36 [(0, .ref (A 19)), (1, .int (Int32.ofInt x))] [] (Wd A dT s) 0 0 := by
  skip
  skip
  have F : Fm [12, 13, 14, 15] [] s s := fm_rf _ _ s
  have b1 : (0 : Int) ≤ iI s 12 ∧ iI s 12 ≤ 9 := I.1 12
  have b2 : ((-1) : Int) ≤ iI s 13 ∧ iI s 13 ≤ 7 := I.1 13
  have L80 : ∀ (n : Nat) (t : PS) (c : Int), Bd t → Fm [12, 13, 14, 15] [] s t → (0 ≤ c ∧ c ≤ 200 ∧ iI t 12 = x ∧ 0 ≤ iI t 13) → (200 - c : Int).toNat < n → (∀ (t' : PS) (c' : Int), Bd t' → Fm [12, 13, 14, 15] [] s t' → (0 ≤ c' ∧ c' ≤ 200 ∧ iI t' 12 = x ∧ 0 ≤ iI t' 13) → WS k 138 [(0, .ref (A 19)), (4, .int (Int32.ofInt c'))] [] (Wd A dT t') 0 0) → WS k 80 [(0, .ref (A 19)), (4, .int (Int32.ofInt c))] [] (Wd A dT t) 0 0 := by
    intro n
    induction n with
    | zero =>
      intro t c I F hi hm kx
      exact absurd hm (Nat.not_lt_zero _)
    | succ n ih =>
      intro t c I F hi hm kx
      have b1001 : (0 : Int) ≤ iI t 12 ∧ iI t 12 ≤ 9 := I.1 12
      have b1002 : ((-1) : Int) ≤ iI t 13 ∧ iI t 13 ≤ 7 := I.1 13
      refine z_load X (x := c) (show cdA 69 80 = some (.iload 4, 2, 0, 0, 0) from rfl) (List.Mem.tail _ (List.Mem.head _)) ?_
      refine z_aload_n X (x := A 19) (show cdA 69 82 = some (.aload_n 0, 1, 0, 0, 0) from rfl) (List.Mem.head _) ?_
      refine s_getR X 19 (show cdA 69 83 = some (.getfield 15, 3, 7, 2, 0) from rfl) (by decide) rfl rfl ?_
      refine z_aload_n X (x := A 19) (show cdA 69 86 = some (.aload_n 0, 1, 0, 0, 0) from rfl) (List.Mem.head _) ?_
      refine z_getI X 19 (show cdA 69 87 = some (.getfield 18, 3, 7, 4, 0) from rfl) (by decide) rfl rfl ?_
      have b1003 : ((-1) : Int) ≤ iI t 13 ∧ iI t 13 ≤ 7 := I.1 13
      refine z_ald X 21 (show cdA 69 90 = some (.iaload, 1, 0, 0, 0) from rfl) (by decide) rfl (by first | exact hi.2.2.2 | omega) (show (iI t 13) < 8 by first | exact oq_aaea290e b1003.2 | omega) (by decide) ?_
      have b1004 : (0 : Int) ≤ iC t 17 ((iI t 13)).toNat ∧ iC t 17 ((iI t 13)).toNat ≤ 200 := I.2 17 _ (show ((iI t 13)).toNat < 8 by first | exact oq_c19a3aae b1003.2 | omega)
      refine z_icmp_ge X (t := 138) (show cdA 69 91 = some (.if_icmp .ge 47, 3, 3, 0, 0) from rfl) (by decide) ⟨by first | exact oq_fa4e5087 hi.1 | omega, by first | exact oq_52af2b96 hi.2.1 | omega⟩ (rng_to _) (fun g1005 => ?_) (fun g1005 => ?_)
      ·
        refine WS_lv (lv := [(0, .ref (A 19)), (4, .int (Int32.ofInt c))]) (List.forall_mem_cons.mpr ⟨(List.Mem.head _), (List.forall_mem_cons.mpr ⟨(List.Mem.tail _ (List.Mem.head _)), (fun q h => absurd h List.not_mem_nil)⟩)⟩) ?_
        exact kx _ c I F (by first | exact ⟨hi.1, hi.2.1, hi.2.2.1, hi.2.2.2⟩ | omega)
      ·
        refine z_aload_n X (x := A 19) (show cdA 69 94 = some (.aload_n 0, 1, 0, 0, 0) from rfl) (List.Mem.head _) ?_
        refine w_dup X.1 (ax_d X (show cdA 69 95 = some (.dup, 1, 0, 0, 0) from rfl)) rfl ?_
        refine z_getI X 19 (show cdA 69 96 = some (.getfield 66, 3, 7, 6, 0) from rfl) (by decide) rfl rfl ?_
        have b1006 : (0 : Int) ≤ iI t 15 ∧ iI t 15 ≤ 1 := I.1 15
        refine z_aload_n X (x := A 19) (show cdA 69 99 = some (.aload_n 0, 1, 0, 0, 0) from rfl) (List.Mem.head _) ?_
        refine s_getR X 19 (show cdA 69 100 = some (.getfield 11, 3, 7, 1, 0) from rfl) (by decide) rfl rfl ?_
        refine z_load X (x := c) (show cdA 69 103 = some (.iload 4, 2, 0, 0, 0) from rfl) (List.Mem.tail _ (List.Mem.head _)) ?_
        refine z_ald X 20 (show cdA 69 105 = some (.iaload, 1, 0, 0, 0) from rfl) (by decide) rfl (by first | exact hi.1 | omega) (show c < 200 by first | exact oq_6fca3d72 g1005 b1004.2 | omega) (by decide) ?_
        have b1007 : ((-2147483648) : Int) ≤ iC t 16 (c).toNat ∧ iC t 16 (c).toNat ≤ 2147483647 := I.2 16 _ (show (c).toNat < 200 by first | exact oq_b70289d5 g1005 b1004.2 | omega)
        refine z_bipush X (show cdA 69 106 = some (.bipush (-5), 2, 0, 0, (-5)) from rfl) ?_
        have N1008 : ∀ e1009 : Int, ((((iC t 16 (c).toNat) = (-5)) ∧ e1009 = 1) ∨ (((iC t 16 (c).toNat) ≠ (-5)) ∧ (((-2147483648) : Int) ≤ iC t 16 (c).toNat ∧ iC t 16 (c).toNat ≤ 2147483647) ∧ ((iC t 16 (c).toNat) ≠ (-6)) ∧ e1009 = 0) ∨ (((iC t 16 (c).toNat) ≠ (-5)) ∧ (((-2147483648) : Int) ≤ iC t 16 (c).toNat ∧ iC t 16 (c).toNat ≤ 2147483647) ∧ ((iC t 16 (c).toNat) = (-6)) ∧ e1009 = 1)) → WS k 128 [(0, .ref (A 19)), (4, .int (Int32.ofInt c))] [.int (Int32.ofInt e1009), .int (Int32.ofInt (iI t 15)), .ref (A 19)] (Wd A dT t) 0 0 := by
          intro e1009 he1009
          have re1009 : 0 ≤ e1009 ∧ e1009 ≤ 1 := by omega
          refine z_orb X (show cdA 69 128 = some (.ior, 1, 0, 0, 0) from rfl) 1 (by decide) (show 0 ≤ (iI t 15) ∧ (iI t 15) < 2 ^ 1 by omega) (show 0 ≤ e1009 ∧ e1009 < 2 ^ 1 by omega) (fun y1010 hy1010 iy1010 => ?_)
          have ib1011 : y1010 < 2 := iy1010
          refine s_putI X 19 (show cdA 69 129 = some (.putfield 66, 3, 7, 6, 0) from rfl) (by decide) rfl rfl (by decide) (nar_ret (by omega)) (fit_z (by omega)) rfl ?_
          obtain ⟨s1012, hs1012⟩ : ∃ x0, x0 = uI t 15 (Int32.ofInt y1010) := ⟨_, rfl⟩
          rw [← hs1012]
          have Is1012 : Bd s1012 := by rw [hs1012]; exact bd_I I (show (0 : Int) ≤ y1010 ∧ y1010 ≤ 1 by first | exact ⟨hy1010, oq_b11e0c68 ib1011⟩ | omega) ⟨by first | exact oq_fa4e5087 hy1010 | omega, by first | exact oq_f6d1716d ib1011 | omega⟩
          have Fs1012 := fm_I (x := Int32.ofInt y1010) F (show 15 ∈ _ by decide)
          rw [← hs1012] at Fs1012
          have vs1012 : iI s1012 15 = y1010 := by rw [hs1012]; exact iI_u ⟨by first | exact oq_fa4e5087 hy1010 | omega, by first | exact oq_f6d1716d ib1011 | omega⟩
          have ws1012_12 : iI s1012 12 = iI t 12 := by rw [hs1012]; rfl
          have ws1012_13 : iI s1012 13 = iI t 13 := by rw [hs1012]; rfl
          refine z_inc X (x := c) (lv' := [(4, .int (Int32.ofInt (c + 1))), (0, .ref (A 19))]) (show cdA 69 132 = some (.iinc 4 1, 3, 0, 0, 0) from rfl) (by decide) (List.Mem.tail _ (List.Mem.head _)) (fun _ h => h) ?_
          refine z_goto X (t := 80) (show cdA 69 135 = some (.goto (-55), 3, 0, 0, 0) from rfl) (by decide) ?_
          refine WS_lv (lv := [(0, .ref (A 19)), (4, .int (Int32.ofInt (c + 1)))]) (List.forall_mem_cons.mpr ⟨(List.Mem.tail _ (List.Mem.head _)), (List.forall_mem_cons.mpr ⟨(List.Mem.head _), (fun q h => absurd h List.not_mem_nil)⟩)⟩) ?_
          exact ih _ (c + 1) Is1012 Fs1012 (by first | exact ⟨oq_54f49eb5 hi.1, oq_228270fa g1005 b1004.2, oq_1aa5be9e ws1012_12 hi.2.2.1, oq_e4757433 ws1012_13 hi.2.2.2⟩ | omega) (by first | exact qk_me hm (by decide) (oq_b0a4f3e2 g1005 b1004.2) | omega) kx
        refine z_icmp_eq X (t := 123) (show cdA 69 108 = some (.if_icmp .eq 15, 3, 0, 0, 0) from rfl) (by decide) (rng_to _) (by decide) (fun g1013 => ?_) (fun g1013 => ?_)
        ·
          refine z_const X (show cdA 69 123 = some (.iconst 1, 1, 0, 0, 0) from rfl) ?_
          refine z_goto X (t := 128) (show cdA 69 124 = some (.goto 4, 3, 0, 0, 0) from rfl) (by decide) ?_
          exact N1008 _ (Or.inl ⟨g1013, rfl⟩)
        ·
          refine z_aload_n X (x := A 19) (show cdA 69 111 = some (.aload_n 0, 1, 0, 0, 0) from rfl) (List.Mem.head _) ?_
          refine s_getR X 19 (show cdA 69 112 = some (.getfield 11, 3, 7, 1, 0) from rfl) (by decide) rfl rfl ?_
          refine z_load X (x := c) (show cdA 69 115 = some (.iload 4, 2, 0, 0, 0) from rfl) (List.Mem.tail _ (List.Mem.head _)) ?_
          refine z_ald X 20 (show cdA 69 117 = some (.iaload, 1, 0, 0, 0) from rfl) (by decide) rfl (by first | exact hi.1 | omega) (show c < 200 by first | exact oq_6fca3d72 g1005 b1004.2 | omega) (by decide) ?_
          have b1014 : ((-2147483648) : Int) ≤ iC t 16 (c).toNat ∧ iC t 16 (c).toNat ≤ 2147483647 := I.2 16 _ (show (c).toNat < 200 by first | exact oq_b70289d5 g1005 b1004.2 | omega)
          refine z_bipush X (show cdA 69 118 = some (.bipush (-6), 2, 0, 0, (-6)) from rfl) ?_
          refine z_icmp_ne X (t := 127) (show cdA 69 120 = some (.if_icmp .ne 7, 3, 1, 0, 0) from rfl) (by decide) (rng_to _) (by decide) (fun g1015 => ?_) (fun g1015 => ?_)
          ·
            refine z_const X (show cdA 69 127 = some (.iconst 0, 1, 0, 0, 0) from rfl) ?_
            exact N1008 _ (Or.inr (Or.inl ⟨g1013, b1014, g1015, rfl⟩))
          ·
            refine z_const X (show cdA 69 123 = some (.iconst 1, 1, 0, 0, 0) from rfl) ?_
            refine z_goto X (t := 128) (show cdA 69 124 = some (.goto 4, 3, 0, 0, 0) from rfl) (by decide) ?_
            exact N1008 _ (Or.inr (Or.inr (⟨g1013, b1014, g1015, rfl⟩)))
  refine z_aload_n X (x := A 19) (show cdA 69 36 = some (.aload_n 0, 1, 0, 0, 0) from rfl) (List.Mem.head _) ?_
  refine z_load_n X (x := x) (show cdA 69 37 = some (.iload_n 1, 1, 0, 0, 0) from rfl) (List.Mem.tail _ (List.Mem.head _)) ?_
  refine s_putI X 19 (show cdA 69 38 = some (.putfield 60, 3, 7, 3, 0) from rfl) (by decide) rfl rfl (by decide) rfl rfl rfl ?_
  obtain ⟨s3, hs3⟩ : ∃ x0, x0 = uI s 12 (Int32.ofInt x) := ⟨_, rfl⟩
  rw [← hs3]
  have Is3 : Bd s3 := by rw [hs3]; exact bd_I I (show (0 : Int) ≤ x ∧ x ≤ 9 by first | exact ⟨p0.1, oq_12cf304a p0.2⟩ | omega) ⟨by first | exact oq_fa4e5087 p0.1 | omega, by first | exact oq_d3f5d874 p0.2 | omega⟩
  have Fs3 := fm_I (x := Int32.ofInt x) F (show 12 ∈ _ by decide)
  rw [← hs3] at Fs3
  have vs3 : iI s3 12 = x := by rw [hs3]; exact iI_u ⟨by first | exact oq_fa4e5087 p0.1 | omega, by first | exact oq_d3f5d874 p0.2 | omega⟩
  have ws3_13 : iI s3 13 = iI s 13 := by rw [hs3]; rfl
  refine z_aload_n X (x := A 19) (show cdA 69 41 = some (.aload_n 0, 1, 0, 0, 0) from rfl) (List.Mem.head _) ?_
  refine z_aload_n X (x := A 19) (show cdA 69 42 = some (.aload_n 0, 1, 0, 0, 0) from rfl) (List.Mem.head _) ?_
  refine z_getI X 19 (show cdA 69 43 = some (.getfield 38, 3, 7, 10, 0) from rfl) (by decide) rfl rfl ?_
  have b4 : ((-1) : Int) ≤ iI s3 17 ∧ iI s3 17 ≤ 7 := Is3.1 17
  refine s_putI X 19 (show cdA 69 46 = some (.putfield 18, 3, 7, 4, 0) from rfl) (by decide) rfl rfl (by decide) rfl rfl rfl ?_
  obtain ⟨s5, hs5⟩ : ∃ x0, x0 = uI s3 13 (Int32.ofInt (iI s3 17)) := ⟨_, rfl⟩
  rw [← hs5]
  have Is5 : Bd s5 := by rw [hs5]; exact bd_I Is3 (show ((-1) : Int) ≤ (iI s3 17) ∧ (iI s3 17) ≤ 7 by first | exact ⟨b4.1, b4.2⟩ | omega) (rng_to _)
  have Fs5 := fm_I (x := Int32.ofInt (iI s3 17)) Fs3 (show 13 ∈ _ by decide)
  rw [← hs5] at Fs5
  have vs5 : iI s5 13 = (iI s3 17) := by rw [hs5]; exact iI_u (rng_to _)
  have ws5_12 : iI s5 12 = iI s3 12 := by rw [hs5]; rfl
  refine z_aload_n X (x := A 19) (show cdA 69 49 = some (.aload_n 0, 1, 0, 0, 0) from rfl) (List.Mem.head _) ?_
  refine z_aload_n X (x := A 19) (show cdA 69 50 = some (.aload_n 0, 1, 0, 0, 0) from rfl) (List.Mem.head _) ?_
  refine z_getI X 19 (show cdA 69 51 = some (.getfield 41, 3, 7, 11, 0) from rfl) (by decide) rfl rfl ?_
  have b6 : ((-2147483648) : Int) ≤ iI s5 18 ∧ iI s5 18 ≤ 2147483647 := Is5.1 18
  refine s_putI X 19 (show cdA 69 54 = some (.putfield 63, 3, 7, 5, 0) from rfl) (by decide) rfl rfl (by decide) rfl rfl rfl ?_
  obtain ⟨s7, hs7⟩ : ∃ x0, x0 = uI s5 14 (Int32.ofInt (iI s5 18)) := ⟨_, rfl⟩
  rw [← hs7]
  have Is7 : Bd s7 := by rw [hs7]; exact bd_I Is5 (show ((-2147483648) : Int) ≤ (iI s5 18) ∧ (iI s5 18) ≤ 2147483647 by first | exact ⟨b6.1, b6.2⟩ | omega) (rng_to _)
  have Fs7 := fm_I (x := Int32.ofInt (iI s5 18)) Fs5 (show 14 ∈ _ by decide)
  rw [← hs7] at Fs7
  have vs7 : iI s7 14 = (iI s5 18) := by rw [hs7]; exact iI_u (rng_to _)
  have ws7_12 : iI s7 12 = iI s5 12 := by rw [hs7]; rfl
  have ws7_13 : iI s7 13 = iI s5 13 := by rw [hs7]; rfl
  refine z_aload_n X (x := A 19) (show cdA 69 57 = some (.aload_n 0, 1, 0, 0, 0) from rfl) (List.Mem.head _) ?_
  refine z_const X (show cdA 69 58 = some (.iconst 0, 1, 0, 0, 0) from rfl) ?_
  refine s_putI X 19 (show cdA 69 59 = some (.putfield 66, 3, 7, 6, 0) from rfl) (by decide) rfl rfl (by decide) (nar_ret (by omega)) (fit_z (by omega)) rfl ?_
  obtain ⟨s8, hs8⟩ : ∃ x0, x0 = uI s7 15 (Int32.ofInt 0) := ⟨_, rfl⟩
  rw [← hs8]
  have Is8 : Bd s8 := by rw [hs8]; exact bd_I Is7 (show (0 : Int) ≤ 0 ∧ 0 ≤ 1 by first | exact ⟨by decide, by decide⟩ | omega) (by decide)
  have Fs8 := fm_I (x := Int32.ofInt 0) Fs7 (show 15 ∈ _ by decide)
  rw [← hs8] at Fs8
  have vs8 : iI s8 15 = 0 := by rw [hs8]; exact iI_u (by decide)
  have ws8_12 : iI s8 12 = iI s7 12 := by rw [hs8]; rfl
  have ws8_13 : iI s8 13 = iI s7 13 := by rw [hs8]; rfl
  refine z_aload_n X (x := A 19) (show cdA 69 62 = some (.aload_n 0, 1, 0, 0, 0) from rfl) (List.Mem.head _) ?_
  refine z_getI X 19 (show cdA 69 63 = some (.getfield 18, 3, 7, 4, 0) from rfl) (by decide) rfl rfl ?_
  have b9 : ((-1) : Int) ≤ iI s8 13 ∧ iI s8 13 ≤ 7 := Is8.1 13
  refine z_const X (show cdA 69 66 = some (.iconst (-1), 1, 0, 0, 0) from rfl) ?_
  refine z_icmp_eq X (t := 138) (show cdA 69 67 = some (.if_icmp .eq 71, 3, 0, 0, 0) from rfl) (by decide) (rng_to _) (by decide) (fun g10 => ?_) (fun g10 => ?_)
  ·
    exact w_vret X.1 q hRt (ax_d X (show cdA 69 138 = some (.return_, 1, 0, 0, 0) from rfl)) (Nat.zero_le _) (Nat.zero_le _) (hK _ Is8 Fs8 (by omega))
  ·
    refine z_aload_n X (x := A 19) (show cdA 69 70 = some (.aload_n 0, 1, 0, 0, 0) from rfl) (List.Mem.head _) ?_
    refine z_aload_n X (x := A 19) (show cdA 69 71 = some (.aload_n 0, 1, 0, 0, 0) from rfl) (List.Mem.head _) ?_
    refine z_getI X 19 (show cdA 69 72 = some (.getfield 18, 3, 7, 4, 0) from rfl) (by decide) rfl rfl ?_
    have b11 : ((-1) : Int) ≤ iI s8 13 ∧ iI s8 13 ≤ 7 := Is8.1 13
    refine z_callV X 19 (rm := rmN 70) (As := [.int (Int32.ofInt (iI s8 13))]) (st := []) (show cdA 69 75 = some (.invokevirtual 70, 3, 70, 0, 0) from rfl) rfl (by decide) rfl (by rw [E.1, E.2.1, E.2.2.1]; exact c7_beginOf3 G Is8 (by first | exact ⟨oq_5234833b b11.1 g10, b11.2⟩ | omega)) ⟨by rw [E.2.2.2]; exact (show (rmN 70).frames + 1 ≤ (rmN 69).frames by decide), by rw [E.2.2.2]; exact (show 8 + (mNL (miB 70) + 11) + (rmN 70).locals ≤ (rmN 69).locals by decide), by rw [E.2.2.2]; exact (show 0 + (rmN 70).cells ≤ (rmN 69).cells by decide), by rw [E.2.2.2]; exact (show 0 + (rmN 70).slots ≤ (rmN 69).slots by decide)⟩ (Nat.le_of_ble_eq_true rfl) (fun vv s12 hq => ?_) (fun ee s12 hq => ?_)
    rotate_left
    · obtain ⟨rfl, e13, hv, hrs12, hps12⟩ := hq; cases hv
    obtain ⟨rfl, e13, hv, hrs12, hps12⟩ := hq
    cases hv
    show WS k 78 [(0, .ref (A 19)), (1, .int (Int32.ofInt x))] [.int (Int32.ofInt e13)] (Wd A dT s8) 0 0
    refine z_store X (lv' := [(4, .int (Int32.ofInt e13)), (0, .ref (A 19)), (1, .int (Int32.ofInt x))]) (show cdA 69 78 = some (.istore 4, 2, 0, 0, 0) from rfl) (by decide) (fun _ h => h) ?_
    refine WS_lv (lv := [(0, .ref (A 19)), (4, .int (Int32.ofInt e13))]) (List.forall_mem_cons.mpr ⟨(List.Mem.tail _ (List.Mem.head _)), (List.forall_mem_cons.mpr ⟨(List.Mem.head _), (fun q h => absurd h List.not_mem_nil)⟩)⟩) ?_
    refine L80 ((200 - e13 : Int).toNat + 1) s8 e13 Is8 Fs8 (by first | exact ⟨hps12.2.1, hps12.2.2, oq_45b593e3 ws8_12 vs3 ws7_12 ws5_12, oq_5234833b b11.1 g10⟩ | omega) (Nat.lt_succ_self _) ?_
    intro s14 x15 Is14 Fs14 hs14
    have b16 : (0 : Int) ≤ iI s14 12 ∧ iI s14 12 ≤ 9 := Is14.1 12
    have b17 : ((-1) : Int) ≤ iI s14 13 ∧ iI s14 13 ≤ 7 := Is14.1 13
    exact w_vret X.1 q hRt (ax_d X (show cdA 69 138 = some (.return_, 1, 0, 0, 0) from rfl)) (Nat.zero_le _) (Nat.zero_le _) (hK _ Is14 Fs14 (by omega))
theorem c7_adopt3 (G : GX l s0 D tys a0 dT) (I : Bd s) {x : Int} (p0 : 0 ≤ x ∧ x ≤ 8) : CTX l s0 D A dT 69 (rmN 69) [.ref (A 19), .int (Int32.ofInt x)] s (fun o t => Bd t ∧ Fm [12, 13, 14, 15] [16, 17, 18, 19] s t ∧ o = .inl none ∧ (iI t 12 = x)) := by
  refine ctX_ofX G (by decide) (Nat.le_of_ble_eq_true rfl) (fun k X E ET hRt hXt q => ?_)
  show WS k 0 [(0, .ref (A 19)), (1, .int (Int32.ofInt x))] [] _ 0 0
  have hb : bsS 19 = .inr (7, [aR (some 1), aR (some 20), aR (some 21), aS 12, aS 13, aS 14, aS 15, aR (some 22), aR (some 23), aS 16, aS 17, aS 18, aS 19, aR (some 24)]) := rfl
  have he := Wd_get (A := A) (dT := dT) (s := s) (show 19 < 518 by decide)
  rw [hb] at he
  have hlen : 19 < (Wd A dT s).length := by rw [Wd_len]; omega
  refine w_aload_n X.1 (x := A 19) (ax_d X (show cdA 69 0 = some (.aload_n 0, 1, 0, 0, 0) from rfl)) (List.Mem.head _) ?_
  refine w_getR X (show cdA 69 1 = some (.getfield 11, 3, 7, 1, 0) from rfl) he (v := .ref (A 20)) rfl ?_
  refine w_astore_n X.1 (lv' := [(2, .ref (A 20)), (0, .ref (A 19)), (1, .int (Int32.ofInt x))]) (ax_d X (show cdA 69 4 = some (.astore_n 2, 1, 0, 0, 0) from rfl)) (by rw [X.2.1.2.2]; decide) (fun _ h => h) ?_
  refine w_aload_n X.1 (x := A 19) (ax_d X (show cdA 69 5 = some (.aload_n 0, 1, 0, 0, 0) from rfl)) (List.Mem.tail _ (List.Mem.head _)) ?_
  refine w_getR X (show cdA 69 6 = some (.getfield 15, 3, 7, 2, 0) from rfl) he (v := .ref (A 21)) rfl ?_
  refine w_astore_n X.1 (lv' := [(3, .ref (A 21)), (2, .ref (A 20)), (0, .ref (A 19)), (1, .int (Int32.ofInt x))]) (ax_d X (show cdA 69 9 = some (.astore_n 3, 1, 0, 0, 0) from rfl)) (by rw [X.2.1.2.2]; decide) (fun _ h => h) ?_
  refine w_aload_n X.1 (x := A 19) (ax_d X (show cdA 69 10 = some (.aload_n 0, 1, 0, 0, 0) from rfl)) (List.Mem.tail _ (List.Mem.tail _ (List.Mem.head _))) ?_
  refine w_aload_n X.1 (x := A 19) (ax_d X (show cdA 69 11 = some (.aload_n 0, 1, 0, 0, 0) from rfl)) (List.Mem.tail _ (List.Mem.tail _ (List.Mem.head _))) ?_
  refine w_getR X (show cdA 69 12 = some (.getfield 22, 3, 7, 7, 0) from rfl) he (v := .ref (A 22)) rfl ?_
  refine w_putR X (show cdA 69 15 = some (.putfield 11, 3, 7, 1, 0) from rfl) he (by decide) (by show _ < 14; decide) rfl rfl rfl ?_
  have he1 := List.getElem?_set_self (a := ((A 19, .inr (7, (List.map (cv (vS A s)) [aR (some 1), aR (some 20), aR (some 21), aS 12, aS 13, aS 14, aS 15, aR (some 22), aR (some 23), aS 16, aS 17, aS 18, aS 19, aR (some 24)]).set 1 (.ref (A 22)))) : Nat × va_E)) hlen
  refine w_aload_n X.1 (x := A 19) (ax_d X (show cdA 69 18 = some (.aload_n 0, 1, 0, 0, 0) from rfl)) (List.Mem.tail _ (List.Mem.tail _ (List.Mem.head _))) ?_
  refine w_aload_n X.1 (x := A 19) (ax_d X (show cdA 69 19 = some (.aload_n 0, 1, 0, 0, 0) from rfl)) (List.Mem.tail _ (List.Mem.tail _ (List.Mem.head _))) ?_
  refine w_getR X (show cdA 69 20 = some (.getfield 25, 3, 7, 8, 0) from rfl) he1 (v := .ref (A 23)) rfl ?_
  refine w_putR X (show cdA 69 23 = some (.putfield 15, 3, 7, 2, 0) from rfl) he1 (by decide) (by show _ < 14; decide) rfl rfl rfl ?_
  rw [List.set_set]
  have he2 := List.getElem?_set_self (a := ((A 19, .inr (7, ((List.map (cv (vS A s)) [aR (some 1), aR (some 20), aR (some 21), aS 12, aS 13, aS 14, aS 15, aR (some 22), aR (some 23), aS 16, aS 17, aS 18, aS 19, aR (some 24)]).set 1 (.ref (A 22))).set 2 (.ref (A 23)))) : Nat × va_E)) hlen
  refine w_aload_n X.1 (x := A 19) (ax_d X (show cdA 69 26 = some (.aload_n 0, 1, 0, 0, 0) from rfl)) (List.Mem.tail _ (List.Mem.tail _ (List.Mem.head _))) ?_
  refine w_aload_n X.1 (x := A 20) (ax_d X (show cdA 69 27 = some (.aload_n 2, 1, 0, 0, 0) from rfl)) (List.Mem.tail _ (List.Mem.head _)) ?_
  refine w_putR X (show cdA 69 28 = some (.putfield 22, 3, 7, 7, 0) from rfl) he2 (by decide) (by show _ < 14; decide) rfl rfl rfl ?_
  rw [List.set_set]
  have he3 := List.getElem?_set_self (a := ((A 19, .inr (7, (((List.map (cv (vS A s)) [aR (some 1), aR (some 20), aR (some 21), aS 12, aS 13, aS 14, aS 15, aR (some 22), aR (some 23), aS 16, aS 17, aS 18, aS 19, aR (some 24)]).set 1 (.ref (A 22))).set 2 (.ref (A 23))).set 7 (.ref (A 20)))) : Nat × va_E)) hlen
  refine w_aload_n X.1 (x := A 19) (ax_d X (show cdA 69 31 = some (.aload_n 0, 1, 0, 0, 0) from rfl)) (List.Mem.tail _ (List.Mem.tail _ (List.Mem.head _))) ?_
  refine w_aload_n X.1 (x := A 21) (ax_d X (show cdA 69 32 = some (.aload_n 3, 1, 0, 0, 0) from rfl)) (List.Mem.head _) ?_
  refine w_putR X (show cdA 69 33 = some (.putfield 25, 3, 7, 8, 0) from rfl) he3 (by decide) (by show _ < 14; decide) rfl rfl rfl ?_
  rw [List.set_set]
  have hsw : ∀ j, (Wd (fun c => A (sw c)) dT (pSw s))[j]? = ((Wd A dT s).set 19 (A 19, .inr (7, ((((List.map (cv (vS A s)) [aR (some 1), aR (some 20), aR (some 21), aS 12, aS 13, aS 14, aS 15, aR (some 22), aR (some 23), aS 16, aS 17, aS 18, aS 19, aR (some 24)]).set 1 (.ref (A 22))).set 2 (.ref (A 23))).set 7 (.ref (A 20))).set 8 (.ref (A 21)))))[sw j]? := fun j => by
    rw [Wd_sw j, hb]
    rfl
  refine WS_perm hsw ?_
  refine WS_lv (lv := [(0, .ref (A 19)), (1, .int (Int32.ofInt x))]) (List.forall_mem_cons.mpr ⟨(List.Mem.tail _ (List.Mem.tail _ (List.Mem.head _))), List.forall_mem_cons.mpr ⟨(List.Mem.tail _ (List.Mem.tail _ (List.Mem.tail _ (List.Mem.head _)))), fun q h => absurd h List.not_mem_nil⟩⟩) ?_
  exact c7_adopt363 (A := fun c => A (sw c)) G (bd_sw I) p0 X E hRt q (fun t It Ft ht => ⟨fun c => A (sw c), t, swA_sw A, rfl, It, fm_ts (fm_ts (fm_rf _ _ _) fm_sw (by decide) (by decide)) Ft (by decide) (by decide), rfl, ht⟩)
set_option maxRecDepth 4000 in
theorem c7_read3 (G : GX l s0 D tys a0 dT) {B : Nat → Int} {N : Int} (SF : SF0 s0) (GT : TXw0 s0) (I : Bd s) (jBYW : BYW B N s) (jTKS : TKS B N s) (p0 : iI s 2 ≤ iI s 1) (p1 : iI s 4 ≤ iI s 2) (p2 : 0 ≤ iI s 12 ∧ iI s 12 ≤ 8) (p3 : iI s 4 = sk B N 0) : CTX l s0 D A dT 68 (rmN 68) [.ref (A 19)] s (fun o t => Bd t ∧ Fm [2, 4, 6, 5, 7, 8, 19, 16, 17, 18, 12, 13, 14, 15] [16, 17, 18, 19] s t ∧ ∃ e, o = .inl (some (.int (Int32.ofInt e))) ∧ rng e ∧ (((e = 1 ∧ RUL B N 0 (iI t 12).toNat) ∨ (e = 0 ∧ ∃ n : Nat, RUL B N (iI t 7) n ∧ iI t 7 ≠ 0)) ∧ 0 ≤ iI t 12 ∧ iI t 12 ≤ 8)) := by
  refine ctX_ofX G (by decide) (Nat.le_of_ble_eq_true rfl) (fun k X E ET hRt hXt q => ?_)
  show WS k 0 [(0, .ref (A 19))] [] _ 0 0
  have F : Fm [2, 4, 6, 5, 7, 8, 19, 16, 17, 18, 12, 13, 14, 15] [16, 17, 18, 19] s s := fm_rf _ _ s
  have hN := jBYW.2.1
  have hW := jBYW.2.2
  have hA := swA_rf A
  have b1 : (0 : Int) ≤ iI s 2 ∧ iI s 2 ≤ 200 := I.1 2
  have b2 : (0 : Int) ≤ iI s 1 ∧ iI s 1 ≤ 200 := I.1 1
  have b3 : (0 : Int) ≤ iI s 4 ∧ iI s 4 ≤ 200 := I.1 4
  have b4 : ((-3) : Int) ≤ iI s 5 ∧ iI s 5 ≤ 255 := I.1 5
  have b5 : (0 : Int) ≤ iI s 6 ∧ iI s 6 ≤ 100000 := I.1 6
  have b6 : (0 : Int) ≤ iI s 19 ∧ iI s 19 ≤ 6 := I.1 19
  have b7 : (0 : Int) ≤ iI s 16 ∧ iI s 16 ≤ 200 := I.1 16
  have b8 : (0 : Int) ≤ iI s 7 ∧ iI s 7 ≤ 9 := I.1 7
  have b9 : (0 : Int) ≤ iI s 12 ∧ iI s 12 ≤ 9 := I.1 12
  have L22 : ∀ (n : Nat) (t : PS) (c : Int), Bd t → Fm [2, 4, 6, 5, 7, 8, 19, 16, 17, 18, 12, 13, 14, 15] [16, 17, 18, 19] s t → BYW B N t → TKS B N t → (CHN B N (c).toNat (iI t 4)) → (0 ≤ c ∧ c ≤ 8 ∧ 0 ≤ iI t 12 ∧ iI t 12 ≤ 8 ∧ iI t 19 = 0 ∧ iI t 4 ≤ N ∧ iI t 16 ≤ iI t 4 ∧ iI t 2 ≤ iI t 1 ∧ iI t 4 ≤ iI t 2) → (9 - c : Int).toNat < n → (∀ (t' : PS) (c' : Int), Bd t' → Fm [2, 4, 6, 5, 7, 8, 19, 16, 17, 18, 12, 13, 14, 15] [16, 17, 18, 19] s t' → BYW B N t' → TKS B N t' → (True) → (0 ≤ c' ∧ c' ≤ 8 ∧ 8 < c') → WS k 62 [(0, .ref (A 19)), (1, .int (Int32.ofInt c'))] [] (Wd A dT t') 0 0) → WS k 22 [(0, .ref (A 19)), (1, .int (Int32.ofInt c))] [] (Wd A dT t) 0 0 := by
    intro n
    induction n with
    | zero =>
      intro t c I F jjBYW jjTKS hq hi hm kx
      exact absurd hm (Nat.not_lt_zero _)
    | succ n ih =>
      intro t c I F jjBYW jjTKS hq hi hm kx
      have b1001 : (0 : Int) ≤ iI t 2 ∧ iI t 2 ≤ 200 := I.1 2
      have b1002 : (0 : Int) ≤ iI t 1 ∧ iI t 1 ≤ 200 := I.1 1
      have b1003 : (0 : Int) ≤ iI t 4 ∧ iI t 4 ≤ 200 := I.1 4
      have b1004 : ((-3) : Int) ≤ iI t 5 ∧ iI t 5 ≤ 255 := I.1 5
      have b1005 : (0 : Int) ≤ iI t 6 ∧ iI t 6 ≤ 100000 := I.1 6
      have b1006 : (0 : Int) ≤ iI t 19 ∧ iI t 19 ≤ 6 := I.1 19
      have b1007 : (0 : Int) ≤ iI t 16 ∧ iI t 16 ≤ 200 := I.1 16
      have b1008 : (0 : Int) ≤ iI t 7 ∧ iI t 7 ≤ 9 := I.1 7
      have b1009 : (0 : Int) ≤ iI t 12 ∧ iI t 12 ≤ 9 := I.1 12
      have hN := jjBYW.2.1
      have hW := jjBYW.2.2
      have hlt := tkw_end jjTKS
      refine z_load_n X (x := c) (show cdA 68 22 = some (.iload_n 1, 1, 0, 0, 0) from rfl) (List.Mem.tail _ (List.Mem.head _)) ?_
      refine z_bipush X (show cdA 68 23 = some (.bipush 8, 2, 0, 0, 8) from rfl) ?_
      refine z_icmp_gt X (t := 62) (show cdA 68 25 = some (.if_icmp .gt 37, 3, 4, 0, 0) from rfl) (by decide) ⟨by first | exact oq_fa4e5087 hi.1 | omega, by first | exact oq_d3f5d874 hi.2.1 | omega⟩ (by decide) (fun g1010 => ?_) (fun g1010 => ?_)
      ·
        refine WS_lv (lv := [(0, .ref (A 19)), (1, .int (Int32.ofInt c))]) (List.forall_mem_cons.mpr ⟨(List.Mem.head _), (List.forall_mem_cons.mpr ⟨(List.Mem.tail _ (List.Mem.head _)), (fun q h => absurd h List.not_mem_nil)⟩)⟩) ?_
        exact kx _ c I F jjBYW jjTKS trivial (by first | exact ⟨hi.1, hi.2.1, g1010⟩ | omega)
      ·
        refine z_aload_n X (x := A 19) (show cdA 68 28 = some (.aload_n 0, 1, 0, 0, 0) from rfl) (List.Mem.head _) ?_
        refine s_getR X 19 (show cdA 68 29 = some (.getfield 31, 3, 7, 0, 0) from rfl) (by decide) rfl rfl ?_
        refine z_getI X 1 (show cdA 68 32 = some (.getfield 47, 3, 10, 6, 0) from rfl) (by decide) rfl rfl ?_
        have b1011 : ((-3) : Int) ≤ iI t 5 ∧ iI t 5 ≤ 255 := I.1 5
        refine z_const X (show cdA 68 35 = some (.iconst (-1), 1, 0, 0, 0) from rfl) ?_
        refine z_icmp_ne X (t := 46) (show cdA 68 36 = some (.if_icmp .ne 10, 3, 1, 0, 0) from rfl) (by decide) (rng_to _) (by decide) (fun g1012 => ?_) (fun g1012 => ?_)
        ·
          have hne : iI t 4 < N := by omega
          refine z_aload_n X (x := A 19) (show cdA 68 46 = some (.aload_n 0, 1, 0, 0, 0) from rfl) (List.Mem.head _) ?_
          refine z_load_n X (x := c) (show cdA 68 47 = some (.iload_n 1, 1, 0, 0, 0) from rfl) (List.Mem.tail _ (List.Mem.head _)) ?_
          refine z_callV X 19 (rm := rmN 71) (As := [.int (Int32.ofInt c)]) (st := []) (show cdA 68 48 = some (.invokevirtual 56, 3, 71, 0, 0) from rfl) rfl (by decide) rfl (by rw [E.1, E.2.1, E.2.2.1]; exact c7_readClause3 G SF GT I jjBYW jjTKS (by first | exact ⟨hi.1, g1010⟩ | omega) (by first | exact hi.2.2.2.2.2.2.2.1 | omega) (by first | exact hi.2.2.2.2.2.2.2.2 | omega) (by first | exact hi.2.2.2.2.1 | omega) (by first | exact hi.2.2.2.2.2.2.1 | omega)) ⟨by rw [E.2.2.2]; exact (show (rmN 71).frames + 1 ≤ (rmN 68).frames by decide), by rw [E.2.2.2]; exact (show 8 + (mNL (miB 71) + 11) + (rmN 71).locals ≤ (rmN 68).locals by decide), by rw [E.2.2.2]; exact (show 0 + (rmN 71).cells ≤ (rmN 68).cells by decide), by rw [E.2.2.2]; exact (show 0 + (rmN 71).slots ≤ (rmN 68).slots by decide)⟩ (Nat.le_of_ble_eq_true rfl) (fun vv s1013 hq => ?_) (fun ee s1013 hq => ?_)
          rotate_left
          · obtain ⟨Is1013, Fs1013, JBYW_s1013, JTKS_s1013, e1014, hv, hrs1013, hps1013⟩ := hq; cases hv
          obtain ⟨Is1013, Fs1013, JBYW_s1013, JTKS_s1013, e1014, hv, hrs1013, hps1013⟩ := hq
          cases hv
          have Gs1013 := fm_ts F Fs1013 (by decide) (by decide)
          have JBYW_s1013 : BYW B N s1013 := BYW_fm Fs1013 (by decide) jjBYW
          have b1015 : (0 : Int) ≤ iI s1013 2 ∧ iI s1013 2 ≤ 200 := Is1013.1 2
          have ws1013_1 : iI s1013 1 = iI t 1 := fm_i Fs1013 (by decide)
          have b1016 : (0 : Int) ≤ iI s1013 4 ∧ iI s1013 4 ≤ 200 := Is1013.1 4
          have b1017 : ((-3) : Int) ≤ iI s1013 5 ∧ iI s1013 5 ≤ 255 := Is1013.1 5
          have b1018 : (0 : Int) ≤ iI s1013 6 ∧ iI s1013 6 ≤ 100000 := Is1013.1 6
          have b1019 : (0 : Int) ≤ iI s1013 19 ∧ iI s1013 19 ≤ 6 := Is1013.1 19
          have b1020 : (0 : Int) ≤ iI s1013 16 ∧ iI s1013 16 ≤ 200 := Is1013.1 16
          have b1021 : (0 : Int) ≤ iI s1013 7 ∧ iI s1013 7 ≤ 9 := Is1013.1 7
          have ws1013_12 : iI s1013 12 = iI t 12 := fm_i Fs1013 (by decide)
          show WS k 51 [(0, .ref (A 19)), (1, .int (Int32.ofInt c))] [.int (Int32.ofInt e1014)] (Wd A dT s1013) 0 0
          have h9 := fun h => chc_9 h hps1013.2.2.2
          refine z_if_ne X (t := 56) (show cdA 68 51 = some (.ifCond .ne 5, 3, 1, 0, 0) from rfl) (by decide) hrs1013 (fun g1022 => ?_) (fun g1022 => ?_)
          ·
            refine z_inc X (x := c) (lv' := [(1, .int (Int32.ofInt (c + 1))), (0, .ref (A 19))]) (show cdA 68 56 = some (.iinc 1 1, 3, 0, 0, 0) from rfl) (by decide) (List.Mem.tail _ (List.Mem.head _)) (fun _ h => h) ?_
            refine z_goto X (t := 22) (show cdA 68 59 = some (.goto (-37), 3, 0, 0, 0) from rfl) (by decide) ?_
            refine WS_lv (lv := [(0, .ref (A 19)), (1, .int (Int32.ofInt (c + 1)))]) (List.forall_mem_cons.mpr ⟨(List.Mem.tail _ (List.Mem.head _)), (List.forall_mem_cons.mpr ⟨(List.Mem.head _), (fun q h => absurd h List.not_mem_nil)⟩)⟩) ?_
            exact ih _ (c + 1) Is1013 Gs1013 JBYW_s1013 JTKS_s1013 (chc_up hq (by omega) (by omega) hps1013.2.2.2 (by omega)) (by first | exact ⟨oq_54f49eb5 hi.1, by omega, oq_e4757433 ws1013_12 b1009.1, oq_86ef0b17 ws1013_12 hi.2.2.2.1, oq_ff203326 g1022 b1019.1 hps1013.1, oq_fc5e1ae1 g1022 hps1013.1, oq_43b1a270 g1022 hps1013.1, hps1013.2.1, hps1013.2.2.1⟩ | omega) (by first | exact qk_me hm (by decide) (oq_fa1cb672 g1010) | omega) kx
          ·
            refine z_const X (show cdA 68 54 = some (.iconst 0, 1, 0, 0, 0) from rfl) ?_
            exact w_iret X.1 q hRt (nar_ret (by first | exact Or.inl (by decide) | omega)) (ax_d X (show cdA 68 55 = some (.ireturn, 1, 0, 0, 0) from rfl)) (Nat.zero_le _) (Nat.zero_le _) ⟨A, _, hA, rfl, Is1013, Gs1013, 0, rfl, (by decide), ⟨Or.inr ⟨rfl, ⟨_, chc_no (v := s1013) hq (by omega) (by omega) hps1013.2.2.2 (by omega) (by omega)⟩⟩, by first | exact oq_e4757433 ws1013_12 b1009.1 | omega, by first | exact oq_86ef0b17 ws1013_12 hi.2.2.2.1 | omega⟩⟩
        ·
          have hen := hlt.mp (by omega)
          refine z_aload_n X (x := A 19) (show cdA 68 39 = some (.aload_n 0, 1, 0, 0, 0) from rfl) (List.Mem.head _) ?_
          refine z_load_n X (x := c) (show cdA 68 40 = some (.iload_n 1, 1, 0, 0, 0) from rfl) (List.Mem.tail _ (List.Mem.head _)) ?_
          refine z_callVX X 19 (rm := rmN 69) (As := [.int (Int32.ofInt c)]) (st := []) (show cdA 68 41 = some (.invokevirtual 52, 3, 69, 0, 0) from rfl) rfl (by decide) rfl (by rw [E.1, E.2.1, E.2.2.1]; exact c7_adopt3 G I (by omega) ) ⟨by rw [E.2.2.2]; exact (show (rmN 69).frames + 1 ≤ (rmN 68).frames by decide), by rw [E.2.2.2]; exact (show 8 + (mNL (miB 69) + 11) + (rmN 69).locals ≤ (rmN 68).locals by decide), by rw [E.2.2.2]; exact (show 0 + (rmN 69).cells ≤ (rmN 68).cells by decide), by rw [E.2.2.2]; exact (show 0 + (rmN 69).slots ≤ (rmN 68).slots by decide)⟩ (Nat.le_of_ble_eq_true rfl) (fun vv A s1023 hA2 hq => ?_) (fun ee A s1023 hA2 hq => ?_)
          rotate_left
          · obtain ⟨Is1023, Fs1023, hv, hps1023⟩ := hq; cases hv
          obtain ⟨Is1023, Fs1023, hv, hps1023⟩ := hq
          cases hv
          replace hA := swA_ts hA hA2
          rw [← hA2 19 (by decide)]
          have Gs1023 := fm_ts F Fs1023 (by decide) (by decide)
          have ws1023_2 : iI s1023 2 = iI t 2 := fm_i Fs1023 (by decide)
          have ws1023_1 : iI s1023 1 = iI t 1 := fm_i Fs1023 (by decide)
          have ws1023_4 : iI s1023 4 = iI t 4 := fm_i Fs1023 (by decide)
          have ws1023_5 : iI s1023 5 = iI t 5 := fm_i Fs1023 (by decide)
          have ws1023_6 : iI s1023 6 = iI t 6 := fm_i Fs1023 (by decide)
          have ws1023_19 : iI s1023 19 = iI t 19 := fm_i Fs1023 (by decide)
          have ws1023_16 : iI s1023 16 = iI t 16 := fm_i Fs1023 (by decide)
          have ws1023_7 : iI s1023 7 = iI t 7 := fm_i Fs1023 (by decide)
          have b1025 : (0 : Int) ≤ iI s1023 12 ∧ iI s1023 12 ≤ 9 := Is1023.1 12
          show WS k 44 [(0, .ref (A 19)), (1, .int (Int32.ofInt c))] [] (Wd A dT s1023) 0 0
          refine z_const X (show cdA 68 44 = some (.iconst 1, 1, 0, 0, 0) from rfl) ?_
          exact w_iret X.1 q hRt (nar_ret (by first | exact Or.inr (by decide) | omega)) (ax_d X (show cdA 68 45 = some (.ireturn, 1, 0, 0, 0) from rfl)) (Nat.zero_le _) (Nat.zero_le _) ⟨A, _, hA, rfl, Is1023, Gs1023, 1, rfl, (by decide), ⟨Or.inl ⟨rfl, by rw [show (iI s1023 12).toNat = (c).toNat by omega]; exact ⟨_, hq, Or.inl ⟨rfl, by omega⟩⟩⟩, by first | exact b1025.1 | omega, by omega⟩⟩
  refine z_aload_n X (x := A 19) (show cdA 68 0 = some (.aload_n 0, 1, 0, 0, 0) from rfl) (List.Mem.head _) ?_
  refine z_const X (show cdA 68 1 = some (.iconst 0, 1, 0, 0, 0) from rfl) ?_
  refine s_putI X 19 (show cdA 68 2 = some (.putfield 35, 3, 7, 9, 0) from rfl) (by decide) rfl rfl (by decide) rfl rfl rfl ?_
  obtain ⟨s10, hs10⟩ : ∃ x0, x0 = uI s 16 (Int32.ofInt 0) := ⟨_, rfl⟩
  rw [← hs10]
  have Is10 : Bd s10 := by rw [hs10]; exact bd_I I (show (0 : Int) ≤ 0 ∧ 0 ≤ 200 by first | exact ⟨by decide, by decide⟩ | omega) (by decide)
  have Fs10 := fm_I (x := Int32.ofInt 0) F (show 16 ∈ _ by decide)
  rw [← hs10] at Fs10
  have vs10 : iI s10 16 = 0 := by rw [hs10]; exact iI_u (by decide)
  have ws10_2 : iI s10 2 = iI s 2 := by rw [hs10]; rfl
  have ws10_1 : iI s10 1 = iI s 1 := by rw [hs10]; rfl
  have ws10_4 : iI s10 4 = iI s 4 := by rw [hs10]; rfl
  have ws10_5 : iI s10 5 = iI s 5 := by rw [hs10]; rfl
  have ws10_6 : iI s10 6 = iI s 6 := by rw [hs10]; rfl
  have ws10_19 : iI s10 19 = iI s 19 := by rw [hs10]; rfl
  have ws10_7 : iI s10 7 = iI s 7 := by rw [hs10]; rfl
  have ws10_12 : iI s10 12 = iI s 12 := by rw [hs10]; rfl
  have fs10 : Fm [16] [] s s10 := by rw [hs10]; exact fm_I (fm_rf _ _ _) (show 16 ∈ _ by decide)
  have JBYW_s10 : BYW B N s10 := BYW_fm fs10 (by decide) jBYW
  have JTKS_s10 : TKS B N s10 := TKS_fm fs10 (by decide) jTKS
  refine z_aload_n X (x := A 19) (show cdA 68 5 = some (.aload_n 0, 1, 0, 0, 0) from rfl) (List.Mem.head _) ?_
  refine z_const X (show cdA 68 6 = some (.iconst (-1), 1, 0, 0, 0) from rfl) ?_
  refine s_putI X 19 (show cdA 68 7 = some (.putfield 38, 3, 7, 10, 0) from rfl) (by decide) rfl rfl (by decide) rfl rfl rfl ?_
  obtain ⟨s11, hs11⟩ : ∃ x0, x0 = uI s10 17 (Int32.ofInt (-1)) := ⟨_, rfl⟩
  rw [← hs11]
  have Is11 : Bd s11 := by rw [hs11]; exact bd_I Is10 (show ((-1) : Int) ≤ (-1) ∧ (-1) ≤ 7 by first | exact ⟨by decide, by decide⟩ | omega) (by decide)
  have Fs11 := fm_I (x := Int32.ofInt (-1)) Fs10 (show 17 ∈ _ by decide)
  rw [← hs11] at Fs11
  have vs11 : iI s11 17 = (-1) := by rw [hs11]; exact iI_u (by decide)
  have ws11_2 : iI s11 2 = iI s10 2 := by rw [hs11]; rfl
  have ws11_1 : iI s11 1 = iI s10 1 := by rw [hs11]; rfl
  have ws11_4 : iI s11 4 = iI s10 4 := by rw [hs11]; rfl
  have ws11_5 : iI s11 5 = iI s10 5 := by rw [hs11]; rfl
  have ws11_6 : iI s11 6 = iI s10 6 := by rw [hs11]; rfl
  have ws11_19 : iI s11 19 = iI s10 19 := by rw [hs11]; rfl
  have ws11_16 : iI s11 16 = iI s10 16 := by rw [hs11]; rfl
  have ws11_7 : iI s11 7 = iI s10 7 := by rw [hs11]; rfl
  have ws11_12 : iI s11 12 = iI s10 12 := by rw [hs11]; rfl
  have fs11 : Fm [17] [] s10 s11 := by rw [hs11]; exact fm_I (fm_rf _ _ _) (show 17 ∈ _ by decide)
  have JBYW_s11 : BYW B N s11 := BYW_fm fs11 (by decide) JBYW_s10
  have JTKS_s11 : TKS B N s11 := TKS_fm fs11 (by decide) JTKS_s10
  refine z_aload_n X (x := A 19) (show cdA 68 10 = some (.aload_n 0, 1, 0, 0, 0) from rfl) (List.Mem.head _) ?_
  refine z_const X (show cdA 68 11 = some (.iconst 0, 1, 0, 0, 0) from rfl) ?_
  refine s_putI X 19 (show cdA 68 12 = some (.putfield 41, 3, 7, 11, 0) from rfl) (by decide) rfl rfl (by decide) rfl rfl rfl ?_
  obtain ⟨s12, hs12⟩ : ∃ x0, x0 = uI s11 18 (Int32.ofInt 0) := ⟨_, rfl⟩
  rw [← hs12]
  have Is12 : Bd s12 := by rw [hs12]; exact bd_I Is11 (show ((-2147483648) : Int) ≤ 0 ∧ 0 ≤ 2147483647 by first | exact ⟨by decide, by decide⟩ | omega) (by decide)
  have Fs12 := fm_I (x := Int32.ofInt 0) Fs11 (show 18 ∈ _ by decide)
  rw [← hs12] at Fs12
  have vs12 : iI s12 18 = 0 := by rw [hs12]; exact iI_u (by decide)
  have ws12_2 : iI s12 2 = iI s11 2 := by rw [hs12]; rfl
  have ws12_1 : iI s12 1 = iI s11 1 := by rw [hs12]; rfl
  have ws12_4 : iI s12 4 = iI s11 4 := by rw [hs12]; rfl
  have ws12_5 : iI s12 5 = iI s11 5 := by rw [hs12]; rfl
  have ws12_6 : iI s12 6 = iI s11 6 := by rw [hs12]; rfl
  have ws12_19 : iI s12 19 = iI s11 19 := by rw [hs12]; rfl
  have ws12_16 : iI s12 16 = iI s11 16 := by rw [hs12]; rfl
  have ws12_7 : iI s12 7 = iI s11 7 := by rw [hs12]; rfl
  have ws12_12 : iI s12 12 = iI s11 12 := by rw [hs12]; rfl
  have fs12 : Fm [18] [] s11 s12 := by rw [hs12]; exact fm_I (fm_rf _ _ _) (show 18 ∈ _ by decide)
  have JBYW_s12 : BYW B N s12 := BYW_fm fs12 (by decide) JBYW_s11
  have JTKS_s12 : TKS B N s12 := TKS_fm fs12 (by decide) JTKS_s11
  refine z_aload_n X (x := A 19) (show cdA 68 15 = some (.aload_n 0, 1, 0, 0, 0) from rfl) (List.Mem.head _) ?_
  refine z_const X (show cdA 68 16 = some (.iconst 0, 1, 0, 0, 0) from rfl) ?_
  refine s_putI X 19 (show cdA 68 17 = some (.putfield 44, 3, 7, 12, 0) from rfl) (by decide) rfl rfl (by decide) rfl rfl rfl ?_
  obtain ⟨s13, hs13⟩ : ∃ x0, x0 = uI s12 19 (Int32.ofInt 0) := ⟨_, rfl⟩
  rw [← hs13]
  have Is13 : Bd s13 := by rw [hs13]; exact bd_I Is12 (show (0 : Int) ≤ 0 ∧ 0 ≤ 6 by first | exact ⟨by decide, by decide⟩ | omega) (by decide)
  have Fs13 := fm_I (x := Int32.ofInt 0) Fs12 (show 19 ∈ _ by decide)
  rw [← hs13] at Fs13
  have vs13 : iI s13 19 = 0 := by rw [hs13]; exact iI_u (by decide)
  have ws13_2 : iI s13 2 = iI s12 2 := by rw [hs13]; rfl
  have ws13_1 : iI s13 1 = iI s12 1 := by rw [hs13]; rfl
  have ws13_4 : iI s13 4 = iI s12 4 := by rw [hs13]; rfl
  have ws13_5 : iI s13 5 = iI s12 5 := by rw [hs13]; rfl
  have ws13_6 : iI s13 6 = iI s12 6 := by rw [hs13]; rfl
  have ws13_16 : iI s13 16 = iI s12 16 := by rw [hs13]; rfl
  have ws13_7 : iI s13 7 = iI s12 7 := by rw [hs13]; rfl
  have ws13_12 : iI s13 12 = iI s12 12 := by rw [hs13]; rfl
  have fs13 : Fm [19] [] s12 s13 := by rw [hs13]; exact fm_I (fm_rf _ _ _) (show 19 ∈ _ by decide)
  have JBYW_s13 : BYW B N s13 := BYW_fm fs13 (by decide) JBYW_s12
  have JTKS_s13 : TKS B N s13 := TKS_fm fs13 (by decide) JTKS_s12
  refine z_const X (show cdA 68 20 = some (.iconst 0, 1, 0, 0, 0) from rfl) ?_
  refine z_store_n X (lv' := [(1, .int (Int32.ofInt 0)), (0, .ref (A 19))]) (show cdA 68 21 = some (.istore_n 1, 1, 0, 0, 0) from rfl) (by decide) (fun _ h => h) ?_
  refine WS_lv (lv := [(0, .ref (A 19)), (1, .int (Int32.ofInt 0))]) (List.forall_mem_cons.mpr ⟨(List.Mem.tail _ (List.Mem.head _)), (List.forall_mem_cons.mpr ⟨(List.Mem.head _), (fun q h => absurd h List.not_mem_nil)⟩)⟩) ?_
  refine L22 ((9 - 0 : Int).toNat + 1) s13 0 Is13 Fs13 JBYW_s13 JTKS_s13 (by show iI s13 4 = sk B N 0; omega) (by first | exact ⟨by decide, by decide, oq_ea8cf281 ws13_12 ws12_12 ws11_12 ws10_12 b9.1, oq_85681322 ws13_12 ws12_12 ws11_12 ws10_12 p2.2, vs13, by omega, oq_1ad913b0 ws13_16 ws13_4 ws12_16 ws12_4 ws11_16 ws11_4 ws10_4 vs10 b3.1, oq_25674cec ws13_1 ws13_2 ws12_1 ws12_2 ws11_1 ws11_2 ws10_1 ws10_2 p0, oq_969cff60 ws13_4 ws13_2 ws12_4 ws12_2 ws11_4 ws11_2 ws10_4 ws10_2 p1⟩ | omega) (Nat.lt_succ_self _) ?_
  intro s14 x15 Is14 Fs14 JBYW_s14 JTKS_s14 Qs14 hs14
  have b16 : (0 : Int) ≤ iI s14 2 ∧ iI s14 2 ≤ 200 := Is14.1 2
  have b17 : (0 : Int) ≤ iI s14 1 ∧ iI s14 1 ≤ 200 := Is14.1 1
  have b18 : (0 : Int) ≤ iI s14 4 ∧ iI s14 4 ≤ 200 := Is14.1 4
  have b19 : ((-3) : Int) ≤ iI s14 5 ∧ iI s14 5 ≤ 255 := Is14.1 5
  have b20 : (0 : Int) ≤ iI s14 6 ∧ iI s14 6 ≤ 100000 := Is14.1 6
  have b21 : (0 : Int) ≤ iI s14 19 ∧ iI s14 19 ≤ 6 := Is14.1 19
  have b22 : (0 : Int) ≤ iI s14 16 ∧ iI s14 16 ≤ 200 := Is14.1 16
  have b23 : (0 : Int) ≤ iI s14 7 ∧ iI s14 7 ≤ 9 := Is14.1 7
  have b24 : (0 : Int) ≤ iI s14 12 ∧ iI s14 12 ≤ 9 := Is14.1 12
  have hNs14 := JBYW_s14.2.1
  have hWs14 := JBYW_s14.2.2
  refine z_const X (show cdA 68 62 = some (.iconst 0, 1, 0, 0, 0) from rfl) ?_
  exact w_iret X.1 q hRt (nar_ret (by first | exact Or.inl (by decide) | omega)) (ax_d X (show cdA 68 63 = some (.ireturn, 1, 0, 0, 0) from rfl)) (Nat.zero_le _) (Nat.zero_le _) ⟨A, _, hA, rfl, Is14, Fs14, 0, rfl, (by decide), by exfalso; omega⟩
set_option maxRecDepth 4000 in
theorem cs_rules3 (G : GX l s0 D tys a0 dT) {B : Nat → Int} (SF : SF0 s0) (GT : TXw0 s0) (I : Bd s) (jBYA : BYA B s) {w : Int} (p0 : rng w) (p1 : 0 ≤ iI s 12 ∧ iI s 12 ≤ 8) : CTX l s0 D A dT 137 (rmN 137) [.ref (A 0), .int (Int32.ofInt w)] s (fun o t => Bd t ∧ Fm [2, 4, 6, 5, 7, 8, 19, 16, 17, 18, 12, 13, 14, 15, 1, 3, 0] [16, 17, 18, 19] s t ∧ ((∃ e, o = .inl (some (.int (Int32.ofInt e))) ∧ rng e ∧ (iI t 0 = 0 ∧ 0 ≤ w ∧ w ≤ iI s 0 ∧ 0 ≤ iI t 12 ∧ iI t 12 ≤ 8 ∧ RUA B w e)) ∨ ∃ x : Nat, o = .inr (exN x) ∧ (x = 0 ∧ iI t 0 = iI s 0 ∧ 0 ≤ iI t 12 ∧ iI t 12 ≤ 8 ∧ (w < 0 ∨ iI s 0 < w)))) := by
  refine ctX_ofX G (by decide) (Nat.le_of_ble_eq_true rfl) (fun k X E ET hRt hXt q => ?_)
  show WS k 0 [(0, .ref (A 0)), (1, .int (Int32.ofInt w))] [] _ 0 0
  have F : Fm [2, 4, 6, 5, 7, 8, 19, 16, 17, 18, 12, 13, 14, 15, 1, 3, 0] [16, 17, 18, 19] s s := fm_rf _ _ s
  have hA := swA_rf A
  have b1 : (0 : Int) ≤ iI s 0 ∧ iI s 0 ≤ 200 := I.1 0
  have b2 : (0 : Int) ≤ iI s 2 ∧ iI s 2 ≤ 200 := I.1 2
  have b3 : (0 : Int) ≤ iI s 1 ∧ iI s 1 ≤ 200 := I.1 1
  have b4 : (0 : Int) ≤ iI s 4 ∧ iI s 4 ≤ 200 := I.1 4
  have b5 : (0 : Int) ≤ iI s 12 ∧ iI s 12 ≤ 9 := I.1 12
  have b6 : (0 : Int) ≤ iI s 7 ∧ iI s 7 ≤ 9 := I.1 7
  refine z_load_n X (x := w) (show cdA 137 0 = some (.iload_n 1, 1, 0, 0, 0) from rfl) (List.Mem.tail _ (List.Mem.head _)) ?_
  refine z_if_lt X (t := 15) (show cdA 137 1 = some (.ifCond .lt 14, 3, 2, 0, 0) from rfl) (by decide) ⟨by first | exact p0.1 | omega, by first | exact p0.2 | omega⟩ (fun g7 => ?_) (fun g7 => ?_)
  ·
    exact z_throw G X E ET hXt q (st := []) (show cdA 137 15 = some (.new 108, 3, 0, 1, 0) from rfl) (by decide) (by decide) (Nat.le_of_ble_eq_true rfl) (show 0 + 1 ≤ 1 by omega) (show 0 + 6 ≤ 6 by omega) (show 0 + 1 ≤ 1 by omega) (show 0 + 6 ≤ 6 by omega) ⟨A, _, hA, rfl, I, F, Or.inr ⟨0, rfl, by omega⟩⟩
  ·
    refine z_load_n X (x := w) (show cdA 137 4 = some (.iload_n 1, 1, 0, 0, 0) from rfl) (List.Mem.tail _ (List.Mem.head _)) ?_
    refine z_aload_n X (x := A 0) (show cdA 137 5 = some (.aload_n 0, 1, 0, 0, 0) from rfl) (List.Mem.head _) ?_
    refine s_getR X 0 (show cdA 137 6 = some (.getfield 10, 3, 11, 0, 0) from rfl) (by decide) rfl rfl ?_
    refine z_getI X 1 (show cdA 137 9 = some (.getfield 104, 3, 10, 1, 0) from rfl) (by decide) rfl rfl ?_
    have b8 : (0 : Int) ≤ iI s 0 ∧ iI s 0 ≤ 200 := I.1 0
    refine z_icmp_le X (t := 25) (show cdA 137 12 = some (.if_icmp .le 13, 3, 5, 0, 0) from rfl) (by decide) ⟨by first | exact p0.1 | omega, by first | exact p0.2 | omega⟩ (rng_to _) (fun g9 => ?_) (fun g9 => ?_)
    ·
      refine z_aload_n X (x := A 0) (show cdA 137 25 = some (.aload_n 0, 1, 0, 0, 0) from rfl) (List.Mem.head _) ?_
      refine s_getR X 0 (show cdA 137 26 = some (.getfield 10, 3, 11, 0, 0) from rfl) (by decide) rfl rfl ?_
      refine z_load_n X (x := w) (show cdA 137 29 = some (.iload_n 1, 1, 0, 0, 0) from rfl) (List.Mem.tail _ (List.Mem.head _)) ?_
      refine z_const X (show cdA 137 30 = some (.iconst 1, 1, 0, 0, 0) from rfl) ?_
      refine z_callV X 1 (rm := rmN 128) (As := [.int (Int32.ofInt w), .int (Int32.ofInt 1)]) (st := []) (show cdA 137 31 = some (.invokevirtual 115, 3, 128, 0, 0) from rfl) rfl (by decide) rfl (by rw [E.1, E.2.1, E.2.2.1]; exact c10_open3 G I jBYA (by first | exact ⟨g7, oq_9a94ea72 g9 b8.2⟩ | omega) (by decide)) ⟨by rw [E.2.2.2]; exact (show (rmN 128).frames + 1 ≤ (rmN 137).frames by decide), by rw [E.2.2.2]; exact (show 8 + (mNL (miB 128) + 11) + (rmN 128).locals ≤ (rmN 137).locals by decide), by rw [E.2.2.2]; exact (show 0 + (rmN 128).cells ≤ (rmN 137).cells by decide), by rw [E.2.2.2]; exact (show 0 + (rmN 128).slots ≤ (rmN 137).slots by decide)⟩ (Nat.le_of_ble_eq_true rfl) (fun vv s10 hq => ?_) (fun ee s10 hq => ?_)
      rotate_left
      · obtain ⟨Is10, Fs10, JBYW_s10, JTKS_s10, hv, hps10⟩ := hq; cases hv
      obtain ⟨Is10, Fs10, JBYW_s10, JTKS_s10, hv, hps10⟩ := hq
      cases hv
      have Gs10 := fm_ts F Fs10 (by decide) (by decide)
      have JBYA_s10 : BYA B s10 := BYA_fm Fs10 (by decide) jBYA
      have b12 : (0 : Int) ≤ iI s10 0 ∧ iI s10 0 ≤ 200 := Is10.1 0
      have b13 : (0 : Int) ≤ iI s10 2 ∧ iI s10 2 ≤ 200 := Is10.1 2
      have b14 : (0 : Int) ≤ iI s10 1 ∧ iI s10 1 ≤ 200 := Is10.1 1
      have b15 : (0 : Int) ≤ iI s10 4 ∧ iI s10 4 ≤ 200 := Is10.1 4
      have ws10_12 : iI s10 12 = iI s 12 := fm_i Fs10 (by decide)
      have b16 : (0 : Int) ≤ iI s10 7 ∧ iI s10 7 ≤ 9 := Is10.1 7
      show WS k 34 [(0, .ref (A 0)), (1, .int (Int32.ofInt w))] [] (Wd A dT s10) 0 0
      refine z_aload_n X (x := A 0) (show cdA 137 34 = some (.aload_n 0, 1, 0, 0, 0) from rfl) (List.Mem.head _) ?_
      refine s_getR X 0 (show cdA 137 35 = some (.getfield 28, 3, 11, 2, 0) from rfl) (by decide) rfl rfl ?_
      refine z_callVX X 19 (rm := rmN 68) (As := []) (st := []) (show cdA 137 38 = some (.invokevirtual 130, 3, 68, 0, 0) from rfl) rfl (by decide) rfl (by rw [E.1, E.2.1, E.2.2.1]; exact c7_read3 G SF GT Is10 JBYW_s10 JTKS_s10 (by omega) (by omega) (by omega) (by omega) ) ⟨by rw [E.2.2.2]; exact (show (rmN 68).frames + 1 ≤ (rmN 137).frames by decide), by rw [E.2.2.2]; exact (show 8 + (mNL (miB 68) + 11) + (rmN 68).locals ≤ (rmN 137).locals by decide), by rw [E.2.2.2]; exact (show 0 + (rmN 68).cells ≤ (rmN 137).cells by decide), by rw [E.2.2.2]; exact (show 0 + (rmN 68).slots ≤ (rmN 137).slots by decide)⟩ (Nat.le_of_ble_eq_true rfl) (fun vv A s17 hA2 hq => ?_) (fun ee A s17 hA2 hq => ?_)
      rotate_left
      · obtain ⟨Is17, Fs17, e18, hv, hrs17, hps17⟩ := hq; cases hv
      obtain ⟨Is17, Fs17, e18, hv, hrs17, hps17⟩ := hq
      cases hv
      replace hA := swA_ts hA hA2
      rw [← hA2 0 (by decide)]
      have Gs17 := fm_ts Gs10 Fs17 (by decide) (by decide)
      have ws17_0 : iI s17 0 = iI s10 0 := fm_i Fs17 (by decide)
      have b19 : (0 : Int) ≤ iI s17 2 ∧ iI s17 2 ≤ 200 := Is17.1 2
      have ws17_1 : iI s17 1 = iI s10 1 := fm_i Fs17 (by decide)
      have b20 : (0 : Int) ≤ iI s17 4 ∧ iI s17 4 ≤ 200 := Is17.1 4
      have b21 : (0 : Int) ≤ iI s17 12 ∧ iI s17 12 ≤ 9 := Is17.1 12
      have b22 : (0 : Int) ≤ iI s17 7 ∧ iI s17 7 ≤ 9 := Is17.1 7
      show WS k 41 [(0, .ref (A 0)), (1, .int (Int32.ofInt w))] [.int (Int32.ofInt e18)] (Wd A dT s17) 0 0
      have N23 : ∀ e24 : Int, (((e18 = 0) ∧ ((0 : Int) ≤ iI s17 7 ∧ iI s17 7 ≤ 9) ∧ e24 = ((iI s17 7) - 10)) ∨ ((e18 ≠ 0) ∧ ((0 : Int) ≤ iI s17 12 ∧ iI s17 12 ≤ 9) ∧ e24 = (iI s17 12))) → WS k 64 [(0, .ref (A 0)), (1, .int (Int32.ofInt w))] [.int (Int32.ofInt e24)] (Wd A dT s17) 0 0 := by
        intro e24 he24
        exact w_iret X.1 q hRt rfl (ax_d X (show cdA 137 64 = some (.ireturn, 1, 0, 0, 0) from rfl)) (Nat.zero_le _) (Nat.zero_le _) ⟨A, _, hA, rfl, Is17, Gs17, Or.inl ⟨e24, rfl, ⟨by first | exact oq_6ee4b094 he24 b22.1 b21.1 | omega, by first | exact oq_8284b719 he24 b22.2 b21.2 | omega⟩, ⟨by first | exact oq_333640b7 ws17_0 hps10.1 b12.1 | omega, by first | exact g7 | omega, by first | exact g9 | omega, by first | exact b21.1 | omega, by omega, by exact Or.elim hps17.1 (fun q => by exact ⟨0, _, q.2, Or.inl ⟨rfl, by omega⟩⟩) (fun q => by obtain ⟨n, q1, q2⟩ := q.2; exact ⟨_, n, q1, Or.inr ⟨q2, by omega⟩⟩)⟩⟩⟩
      refine z_if_eq X (t := 54) (show cdA 137 41 = some (.ifCond .eq 13, 3, 0, 0, 0) from rfl) (by decide) ⟨by omega, by omega⟩ (fun g25 => ?_) (fun g25 => ?_)
      ·
        refine z_aload_n X (x := A 0) (show cdA 137 54 = some (.aload_n 0, 1, 0, 0, 0) from rfl) (List.Mem.head _) ?_
        refine s_getR X 0 (show cdA 137 55 = some (.getfield 10, 3, 11, 0, 0) from rfl) (by decide) rfl rfl ?_
        refine z_getI X 1 (show cdA 137 58 = some (.getfield 123, 3, 10, 8, 0) from rfl) (by decide) rfl rfl ?_
        have b26 : (0 : Int) ≤ iI s17 7 ∧ iI s17 7 ≤ 9 := Is17.1 7
        refine z_bipush X (show cdA 137 61 = some (.bipush 10, 2, 0, 0, 10) from rfl) ?_
        refine z_sub X (show cdA 137 63 = some (.isub, 1, 0, 0, 0) from rfl) ?_
        exact N23 _ (Or.inl ⟨g25, b26, rfl⟩)
      ·
        refine z_aload_n X (x := A 0) (show cdA 137 44 = some (.aload_n 0, 1, 0, 0, 0) from rfl) (List.Mem.head _) ?_
        refine s_getR X 0 (show cdA 137 45 = some (.getfield 28, 3, 11, 2, 0) from rfl) (by decide) rfl rfl ?_
        refine z_getI X 19 (show cdA 137 48 = some (.getfield 134, 3, 7, 3, 0) from rfl) (by decide) rfl rfl ?_
        have b27 : (0 : Int) ≤ iI s17 12 ∧ iI s17 12 ≤ 9 := Is17.1 12
        refine z_goto X (t := 64) (show cdA 137 51 = some (.goto 13, 3, 0, 0, 0) from rfl) (by decide) ?_
        exact N23 _ (Or.inr (⟨g25, b27, rfl⟩))
    ·
      exact z_throw G X E ET hXt q (st := []) (show cdA 137 15 = some (.new 108, 3, 0, 1, 0) from rfl) (by decide) (by decide) (Nat.le_of_ble_eq_true rfl) (show 0 + 1 ≤ 1 by omega) (show 0 + 6 ≤ 6 by omega) (show 0 + 1 ≤ 1 by omega) (show 0 + 6 ≤ 6 by omega) ⟨A, _, hA, rfl, I, F, Or.inr ⟨0, rfl, by omega⟩⟩
set_option maxRecDepth 4000 in
theorem k_rules3 (G : GX l s0 D tys a0 dT) {B : Nat → Int} (I : Bd s) (jFDA : FDA B s) {x : Int} (p0 : rng x) : CT l s0 D A dT 214 (rmN 214) [.ref (A 179), .int (Int32.ofInt x)] s (fun o t => Bd t ∧ Fm [73, 74, 76, 82, 83, 84, 85, 77, 75, 78, 79, 80, 81, 86, 87, 88] [160, 159, 158] s t ∧ FDA B t ∧ ∃ e, o = .inl (some (.int (Int32.ofInt e))) ∧ rng e ∧ ((0 ≤ x ∧ x ≤ iI s 74 ∧ iI t 74 = 0 ∧ iI t 73 = 0 ∧ RUA B x e) ∨ ((x < 0 ∨ iI s 74 < x) ∧ iI t 74 = iI s 74 ∧ iI t 73 = 1))) := by
  refine ct_of G (by decide) (Nat.le_of_ble_eq_true rfl) (fun k X E hRt hXt q => ?_)
  show WS k 0 [(0, .ref (A 179)), (1, .int (Int32.ofInt x))] [] _ 0 0
  have F : Fm [73, 74, 76, 82, 83, 84, 85, 77, 75, 78, 79, 80, 81, 86, 87, 88] [160, 159, 158] s s := fm_rf _ _ s
  have b1 : (0 : Int) ≤ iI s 73 ∧ iI s 73 ≤ 3 := I.1 73
  have b2 : (0 : Int) ≤ iI s 74 ∧ iI s 74 ≤ 200 := I.1 74
  have b3 : (0 : Int) ≤ iI s 77 ∧ iI s 77 ≤ 400 := I.1 77
  have b4 : (0 : Int) ≤ iI s 75 ∧ iI s 75 ≤ 200 := I.1 75
  have b5 : (0 : Int) ≤ iI s 79 ∧ iI s 79 ≤ 9 := I.1 79
  have b6 : (0 : Int) ≤ iI s 78 ∧ iI s 78 ≤ 8 := I.1 78
  have b7 : (0 : Int) ≤ iI s 86 ∧ iI s 86 ≤ 8 := I.1 86
  have b8 : (0 : Int) ≤ iI s 87 ∧ iI s 87 ≤ 8 := I.1 87
  have b9 : ((-1) : Int) ≤ iI s 88 ∧ iI s 88 ≤ 200 := I.1 88
  have b10 : (0 : Int) ≤ iI s 81 ∧ iI s 81 ≤ 1 := I.1 81
  have b11 : (0 : Int) ≤ iI s 83 ∧ iI s 83 ≤ 8 := I.1 83
  have L61 : ∀ (n : Nat) (t : PS) (xv : Int), Bd t → Fm [73, 74, 76, 82, 83, 84, 85, 77, 75, 78, 79, 80, 81, 86, 87, 88] [160, 159, 158] s t → FDA B t → (CHM B x t ∧ sk B x (iI t 77) = iI t 77) → (xv = x ∧ (0 ≤ x ∧ x ≤ iI s 74 ∧ x ≤ 200) ∧ iI t 74 = 0 ∧ iI t 75 = x ∧ iI t 78 = 0 ∧ iI t 77 ≤ 203 ∧ (iI t 79 = 0 → iI t 77 ≤ iI t 75) ∧ iI t 87 ≤ iI t 86 ∧ iI t 81 = 0 ∧ iI t 73 = 0) → (400 - iI t 77 + (9 - iI t 79) : Int).toNat < n → (∀ (t' : PS), Bd t' → Fm [73, 74, 76, 82, 83, 84, 85, 77, 75, 78, 79, 80, 81, 86, 87, 88] [160, 159, 158] s t' → FDA B t' → (CHM B x t' ∧ sk B x (iI t' 77) = iI t' 77) → (xv = x ∧ (0 ≤ x ∧ x ≤ iI s 74 ∧ x ≤ 200) ∧ iI t' 74 = 0 ∧ iI t' 75 = x ∧ iI t' 78 = 0 ∧ iI t' 77 ≤ 203 ∧ (iI t' 79 = 0 → iI t' 77 ≤ iI t' 75) ∧ iI t' 87 ≤ iI t' 86 ∧ iI t' 81 = 0 ∧ iI t' 73 = 0 ∧ (iI t' 79 = 0 → x ≤ iI t' 77)) → WS k 90 [(0, .ref (A 179)), (1, .int (Int32.ofInt xv))] [] (Wd A dT t') 0 0) → WS k 61 [(0, .ref (A 179)), (1, .int (Int32.ofInt xv))] [] (Wd A dT t) 0 0 := by
    intro n
    induction n with
    | zero =>
      intro t xv I F jjFDA hq hi hm kx
      exact absurd hm (Nat.not_lt_zero _)
    | succ n ih =>
      intro t xv I F jjFDA hq hi hm kx
      have b1001 : (0 : Int) ≤ iI t 73 ∧ iI t 73 ≤ 3 := I.1 73
      have b1002 : (0 : Int) ≤ iI t 74 ∧ iI t 74 ≤ 200 := I.1 74
      have b1003 : (0 : Int) ≤ iI t 77 ∧ iI t 77 ≤ 400 := I.1 77
      have b1004 : (0 : Int) ≤ iI t 75 ∧ iI t 75 ≤ 200 := I.1 75
      have b1005 : (0 : Int) ≤ iI t 79 ∧ iI t 79 ≤ 9 := I.1 79
      have b1006 : (0 : Int) ≤ iI t 78 ∧ iI t 78 ≤ 8 := I.1 78
      have b1007 : (0 : Int) ≤ iI t 86 ∧ iI t 86 ≤ 8 := I.1 86
      have b1008 : (0 : Int) ≤ iI t 87 ∧ iI t 87 ≤ 8 := I.1 87
      have b1009 : ((-1) : Int) ≤ iI t 88 ∧ iI t 88 ≤ 200 := I.1 88
      have b1010 : (0 : Int) ≤ iI t 81 ∧ iI t 81 ≤ 1 := I.1 81
      have b1011 : (0 : Int) ≤ iI t 83 ∧ iI t 83 ≤ 8 := I.1 83
      have JBt : FDB B x t := ⟨fda_n jjFDA (by omega) (by omega), by omega, by omega⟩
      have hN : iI t 75 = x := by omega
      refine z_aload_n X (x := A 179) (show cdA 214 61 = some (.aload_n 0, 1, 0, 0, 0) from rfl) (List.Mem.head _) ?_
      refine z_getI X 179 (show cdA 214 62 = some (.getfield 191, 3, 12, 6, 0) from rfl) (by decide) rfl rfl ?_
      have b1012 : (0 : Int) ≤ iI t 79 ∧ iI t 79 ≤ 9 := I.1 79
      refine z_if_ne X (t := 90) (show cdA 214 65 = some (.ifCond .ne 25, 3, 1, 0, 0) from rfl) (by decide) (rng_to _) (fun g1013 => ?_) (fun g1013 => ?_)
      ·
        refine WS_lv (lv := [(0, .ref (A 179)), (1, .int (Int32.ofInt xv))]) (List.forall_mem_cons.mpr ⟨(List.Mem.head _), (List.forall_mem_cons.mpr ⟨(List.Mem.tail _ (List.Mem.head _)), (fun q h => absurd h List.not_mem_nil)⟩)⟩) ?_
        exact kx _  I F jjFDA hq (by first | exact ⟨hi.1, And.intro (hi.2.1.1) (And.intro (hi.2.1.2.1) (hi.2.1.2.2)), hi.2.2.1, hN, hi.2.2.2.2.1, hi.2.2.2.2.2.1, hi.2.2.2.2.2.2.1, hi.2.2.2.2.2.2.2.1, hi.2.2.2.2.2.2.2.2.1, hi.2.2.2.2.2.2.2.2.2, oq_6a3c9b31 g1013 b1012.1⟩ | omega)
      ·
        refine z_aload_n X (x := A 179) (show cdA 214 68 = some (.aload_n 0, 1, 0, 0, 0) from rfl) (List.Mem.head _) ?_
        refine z_getI X 179 (show cdA 214 69 = some (.getfield 184, 3, 12, 4, 0) from rfl) (by decide) rfl rfl ?_
        have b1014 : (0 : Int) ≤ iI t 77 ∧ iI t 77 ≤ 400 := I.1 77
        refine z_aload_n X (x := A 179) (show cdA 214 72 = some (.aload_n 0, 1, 0, 0, 0) from rfl) (List.Mem.head _) ?_
        refine z_getI X 179 (show cdA 214 73 = some (.getfield 178, 3, 12, 2, 0) from rfl) (by decide) rfl rfl ?_
        have b1015 : (0 : Int) ≤ iI t 75 ∧ iI t 75 ≤ 200 := I.1 75
        refine z_icmp_ge X (t := 90) (show cdA 214 76 = some (.if_icmp .ge 14, 3, 3, 0, 0) from rfl) (by decide) (rng_to _) (rng_to _) (fun g1016 => ?_) (fun g1016 => ?_)
        ·
          refine WS_lv (lv := [(0, .ref (A 179)), (1, .int (Int32.ofInt xv))]) (List.forall_mem_cons.mpr ⟨(List.Mem.head _), (List.forall_mem_cons.mpr ⟨(List.Mem.tail _ (List.Mem.head _)), (fun q h => absurd h List.not_mem_nil)⟩)⟩) ?_
          exact kx _  I F jjFDA hq (by first | exact ⟨hi.1, And.intro (hi.2.1.1) (And.intro (hi.2.1.2.1) (hi.2.1.2.2)), hi.2.2.1, hN, hi.2.2.2.2.1, hi.2.2.2.2.2.1, hi.2.2.2.2.2.2.1, hi.2.2.2.2.2.2.2.1, hi.2.2.2.2.2.2.2.2.1, hi.2.2.2.2.2.2.2.2.2, oq_7b48b746 g1016 hN⟩ | omega)
        ·
          refine z_aload_n X (x := A 179) (show cdA 214 79 = some (.aload_n 0, 1, 0, 0, 0) from rfl) (List.Mem.head _) ?_
          refine z_callV X 179 (rm := rmN 213) (As := []) (st := []) (show cdA 214 80 = some (.invokevirtual 291, 3, 213, 0, 0) from rfl) rfl (by decide) rfl (by rw [E.1, E.2.1, E.2.2.1]; exact k_clause3 G I JBt (by first | exact g1013 | omega) (by first | exact hi.2.2.2.2.1 | omega) (by first | exact oq_161a6600 g1016 | omega) (by first | exact hi.2.2.2.2.2.2.2.1 | omega)) ⟨by rw [E.2.2.2]; exact (show (rmN 213).frames + 1 ≤ (rmN 214).frames by decide), by rw [E.2.2.2]; exact (show 8 + (mNL (miB 213) + 11) + (rmN 213).locals ≤ (rmN 214).locals by decide), by rw [E.2.2.2]; exact (show 0 + (rmN 213).cells ≤ (rmN 214).cells by decide), by rw [E.2.2.2]; exact (show 0 + (rmN 213).slots ≤ (rmN 214).slots by decide)⟩ (Nat.le_of_ble_eq_true rfl) (fun vv s1017 hq => ?_) (fun ee s1017 hq => ?_)
          rotate_left
          · obtain ⟨Is1017, Fs1017, JFDB_s1017, hv, hps1017⟩ := hq; cases hv
          obtain ⟨Is1017, Fs1017, JFDB_s1017, hv, hps1017⟩ := hq
          cases hv
          have Gs1017 := fm_ts F Fs1017 (by decide) (by decide)
          have JFDA_s1017 : FDA B s1017 := FDA_fm Fs1017 (by decide) jjFDA
          have JFDB_s1017 : FDB B x s1017 := FDB_fm Fs1017 (by decide) JBt
          have ws1017_73 : iI s1017 73 = iI t 73 := fm_i Fs1017 (by decide)
          have ws1017_74 : iI s1017 74 = iI t 74 := fm_i Fs1017 (by decide)
          have b1019 : (0 : Int) ≤ iI s1017 77 ∧ iI s1017 77 ≤ 400 := Is1017.1 77
          have ws1017_75 : iI s1017 75 = iI t 75 := fm_i Fs1017 (by decide)
          have b1020 : (0 : Int) ≤ iI s1017 79 ∧ iI s1017 79 ≤ 9 := Is1017.1 79
          have b1021 : (0 : Int) ≤ iI s1017 78 ∧ iI s1017 78 ≤ 8 := Is1017.1 78
          have b1022 : (0 : Int) ≤ iI s1017 86 ∧ iI s1017 86 ≤ 8 := Is1017.1 86
          have b1023 : (0 : Int) ≤ iI s1017 87 ∧ iI s1017 87 ≤ 8 := Is1017.1 87
          have b1024 : ((-1) : Int) ≤ iI s1017 88 ∧ iI s1017 88 ≤ 200 := Is1017.1 88
          have ws1017_81 : iI s1017 81 = iI t 81 := fm_i Fs1017 (by decide)
          have ws1017_83 : iI s1017 83 = iI t 83 := fm_i Fs1017 (by decide)
          show WS k 83 [(0, .ref (A 179)), (1, .int (Int32.ofInt xv))] [] (Wd A dT s1017) 0 0
          refine z_aload_n X (x := A 179) (show cdA 214 83 = some (.aload_n 0, 1, 0, 0, 0) from rfl) (List.Mem.head _) ?_
          refine z_callV X 179 (rm := rmN 193) (As := []) (st := []) (show cdA 214 84 = some (.invokevirtual 197, 3, 193, 0, 0) from rfl) rfl (by decide) rfl (by rw [E.1, E.2.1, E.2.2.1]; exact k_blanks2 G Is1017 JFDB_s1017 (by first | exact oq_2ebc9f52 hps1017.2.2.1 | omega)) ⟨by rw [E.2.2.2]; exact (show (rmN 193).frames + 1 ≤ (rmN 214).frames by decide), by rw [E.2.2.2]; exact (show 8 + (mNL (miB 193) + 11) + (rmN 193).locals ≤ (rmN 214).locals by decide), by rw [E.2.2.2]; exact (show 0 + (rmN 193).cells ≤ (rmN 214).cells by decide), by rw [E.2.2.2]; exact (show 0 + (rmN 193).slots ≤ (rmN 214).slots by decide)⟩ (Nat.le_of_ble_eq_true rfl) (fun vv s1025 hq => ?_) (fun ee s1025 hq => ?_)
          rotate_left
          · obtain ⟨Is1025, Fs1025, JFDB_s1025, hv, hps1025⟩ := hq; cases hv
          obtain ⟨Is1025, Fs1025, JFDB_s1025, hv, hps1025⟩ := hq
          cases hv
          have Gs1025 := fm_ts Gs1017 Fs1025 (by decide) (by decide)
          have JFDA_s1025 : FDA B s1025 := FDA_fm Fs1025 (by decide) JFDA_s1017
          have JFDB_s1025 : FDB B x s1025 := FDB_fm Fs1025 (by decide) JFDB_s1017
          have ws1025_73 : iI s1025 73 = iI s1017 73 := fm_i Fs1025 (by decide)
          have ws1025_74 : iI s1025 74 = iI s1017 74 := fm_i Fs1025 (by decide)
          have b1027 : (0 : Int) ≤ iI s1025 77 ∧ iI s1025 77 ≤ 400 := Is1025.1 77
          have ws1025_75 : iI s1025 75 = iI s1017 75 := fm_i Fs1025 (by decide)
          have ws1025_79 : iI s1025 79 = iI s1017 79 := fm_i Fs1025 (by decide)
          have ws1025_78 : iI s1025 78 = iI s1017 78 := fm_i Fs1025 (by decide)
          have ws1025_86 : iI s1025 86 = iI s1017 86 := fm_i Fs1025 (by decide)
          have ws1025_87 : iI s1025 87 = iI s1017 87 := fm_i Fs1025 (by decide)
          have ws1025_88 : iI s1025 88 = iI s1017 88 := fm_i Fs1025 (by decide)
          have ws1025_81 : iI s1025 81 = iI s1017 81 := fm_i Fs1025 (by decide)
          have ws1025_83 : iI s1025 83 = iI s1017 83 := fm_i Fs1025 (by decide)
          show WS k 87 [(0, .ref (A 179)), (1, .int (Int32.ofInt xv))] [] (Wd A dT s1025) 0 0
          refine z_goto X (t := 61) (show cdA 214 87 = some (.goto (-26), 3, 0, 0, 0) from rfl) (by decide) ?_
          refine WS_lv (lv := [(0, .ref (A 179)), (1, .int (Int32.ofInt xv))]) (List.forall_mem_cons.mpr ⟨(List.Mem.head _), (List.forall_mem_cons.mpr ⟨(List.Mem.tail _ (List.Mem.head _)), (fun q h => absurd h List.not_mem_nil)⟩)⟩) ?_
          exact ih _ xv Is1025 Gs1025 JFDA_s1025 ⟨chm_mv (chm_up hq.1 (by omega) (by omega) (by rw [hq.2]; omega) hps1017.2.2.2.2.2.2 (by omega)) (by omega) (by omega) (by rw [hps1025.1]; exact sk_sk), by rw [hps1025.1]; exact sk_sk⟩ (by first | exact ⟨hi.1, And.intro (hi.2.1.1) (And.intro (hi.2.1.2.1) (hi.2.1.2.2)), oq_7fe879e0 ws1025_74 ws1017_74 hi.2.2.1 b1002.1, oq_878618b1 ws1025_75 ws1017_75 hN, oq_333640b7 ws1025_78 hps1017.1 b1021.1, by omega, by omega, oq_e7b9ecab ws1025_86 ws1025_87 hps1017.2.2.2.2.1, oq_7fe879e0 ws1025_81 ws1017_81 hi.2.2.2.2.2.2.2.2.1 b1010.1, oq_7fe879e0 ws1025_73 ws1017_73 hi.2.2.2.2.2.2.2.2.2 b1001.1⟩ | omega) (by first | exact qk_me hm (oq_5b7b6df3 ws1025_79 hps1025.2.1 b1020.1 hps1017.2.2.2.1 hps1017.2.1 g1013) (oq_faaf1092 g1013 b1014.2) | omega) kx
  have L115 : ∀ (n : Nat) (t : PS) (xv c : Int), Bd t → Fm [73, 74, 76, 82, 83, 84, 85, 77, 75, 78, 79, 80, 81, 86, 87, 88] [160, 159, 158] s t → FDA B t → (RUA B x (iI t 86)) → (xv = x ∧ (0 ≤ x ∧ x ≤ iI s 74) ∧ iI t 74 = 0 ∧ 0 ≤ c ∧ c ≤ 200 ∧ iI t 87 ≤ iI t 86 ∧ iI t 75 ≤ 200 ∧ iI t 73 = 0) → (200 - c : Int).toNat < n → (∀ (t' : PS) (c' : Int), Bd t' → Fm [73, 74, 76, 82, 83, 84, 85, 77, 75, 78, 79, 80, 81, 86, 87, 88] [160, 159, 158] s t' → FDA B t' → (RUA B x (iI t' 86)) → (xv = x ∧ (0 ≤ x ∧ x ≤ iI s 74) ∧ iI t' 74 = 0 ∧ 0 ≤ c' ∧ c' ≤ 200 ∧ iI t' 87 ≤ iI t' 86 ∧ iI t' 75 ≤ 200 ∧ iI t' 73 = 0) → WS k 138 [(0, .ref (A 179)), (1, .int (Int32.ofInt xv)), (2, .int (Int32.ofInt c'))] [] (Wd A dT t') 0 0) → WS k 115 [(0, .ref (A 179)), (1, .int (Int32.ofInt xv)), (2, .int (Int32.ofInt c))] [] (Wd A dT t) 0 0 := by
    intro n
    induction n with
    | zero =>
      intro t xv c I F jjFDA hq hi hm kx
      exact absurd hm (Nat.not_lt_zero _)
    | succ n ih =>
      intro t xv c I F jjFDA hq hi hm kx
      have b2001 : (0 : Int) ≤ iI t 73 ∧ iI t 73 ≤ 3 := I.1 73
      have b2002 : (0 : Int) ≤ iI t 74 ∧ iI t 74 ≤ 200 := I.1 74
      have b2003 : (0 : Int) ≤ iI t 77 ∧ iI t 77 ≤ 400 := I.1 77
      have b2004 : (0 : Int) ≤ iI t 75 ∧ iI t 75 ≤ 200 := I.1 75
      have b2005 : (0 : Int) ≤ iI t 79 ∧ iI t 79 ≤ 9 := I.1 79
      have b2006 : (0 : Int) ≤ iI t 78 ∧ iI t 78 ≤ 8 := I.1 78
      have b2007 : (0 : Int) ≤ iI t 86 ∧ iI t 86 ≤ 8 := I.1 86
      have b2008 : (0 : Int) ≤ iI t 87 ∧ iI t 87 ≤ 8 := I.1 87
      have b2009 : ((-1) : Int) ≤ iI t 88 ∧ iI t 88 ≤ 200 := I.1 88
      have b2010 : (0 : Int) ≤ iI t 81 ∧ iI t 81 ≤ 1 := I.1 81
      have b2011 : (0 : Int) ≤ iI t 83 ∧ iI t 83 ≤ 8 := I.1 83
      refine z_load_n X (x := c) (show cdA 214 115 = some (.iload_n 2, 1, 0, 0, 0) from rfl) (List.Mem.tail _ (List.Mem.tail _ (List.Mem.head _))) ?_
      refine z_load_n X (x := xv) (show cdA 214 116 = some (.iload_n 1, 1, 0, 0, 0) from rfl) (List.Mem.tail _ (List.Mem.head _)) ?_
      refine z_icmp_ge X (t := 138) (show cdA 214 117 = some (.if_icmp .ge 21, 3, 3, 0, 0) from rfl) (by decide) ⟨by first | exact oq_fa4e5087 hi.2.2.2.1 | omega, by first | exact oq_52af2b96 hi.2.2.2.2.1 | omega⟩ ⟨by first | exact oq_b3df2c6f hi.1 hi.2.1.1 | omega, by first | exact oq_60a194f9 hi.1 p0.2 | omega⟩ (fun g2012 => ?_) (fun g2012 => ?_)
      ·
        refine WS_lv (lv := [(0, .ref (A 179)), (1, .int (Int32.ofInt xv)), (2, .int (Int32.ofInt c))]) (List.forall_mem_cons.mpr ⟨(List.Mem.head _), (List.forall_mem_cons.mpr ⟨(List.Mem.tail _ (List.Mem.head _)), (List.forall_mem_cons.mpr ⟨(List.Mem.tail _ (List.Mem.tail _ (List.Mem.head _))), (fun q h => absurd h List.not_mem_nil)⟩)⟩)⟩) ?_
        exact kx _ c I F jjFDA hq (by first | exact ⟨hi.1, And.intro (hi.2.1.1) (hi.2.1.2), hi.2.2.1, hi.2.2.2.1, hi.2.2.2.2.1, hi.2.2.2.2.2.1, b2004.2, hi.2.2.2.2.2.2.2⟩ | omega)
      ·
        refine z_aload_n X (x := A 179) (show cdA 214 120 = some (.aload_n 0, 1, 0, 0, 0) from rfl) (List.Mem.head _) ?_
        refine s_getR X 179 (show cdA 214 121 = some (.getfield 17, 3, 12, 10, 0) from rfl) (by decide) rfl rfl ?_
        refine z_load_n X (x := c) (show cdA 214 124 = some (.iload_n 2, 1, 0, 0, 0) from rfl) (List.Mem.tail _ (List.Mem.tail _ (List.Mem.head _))) ?_
        refine z_aload_n X (x := A 179) (show cdA 214 125 = some (.aload_n 0, 1, 0, 0, 0) from rfl) (List.Mem.head _) ?_
        refine s_getR X 179 (show cdA 214 126 = some (.getfield 13, 3, 12, 9, 0) from rfl) (by decide) rfl rfl ?_
        refine z_load_n X (x := c) (show cdA 214 129 = some (.iload_n 2, 1, 0, 0, 0) from rfl) (List.Mem.tail _ (List.Mem.tail _ (List.Mem.head _))) ?_
        refine z_ald X 180 (show cdA 214 130 = some (.iaload, 1, 0, 0, 0) from rfl) (by decide) rfl (by first | exact hi.2.2.2.1 | omega) (show c < 200 by first | exact oq_aa587420 g2012 hi.1 hi.2.1.2 b2.2 | omega) (by decide) ?_
        have b2013 : (0 : Int) ≤ iC t 157 (c).toNat ∧ iC t 157 (c).toNat ≤ 255 := I.2 157 _ (show (c).toNat < 200 by first | exact oq_379144f0 g2012 hi.1 hi.2.1.2 b2.2 | omega)
        refine z_ast X 181 (show cdA 214 131 = some (.iastore, 1, 0, 0, 0) from rfl) (by decide) rfl (by first | exact hi.2.2.2.1 | omega) (show c < 200 by first | exact oq_aa587420 g2012 hi.1 hi.2.1.2 b2.2 | omega) (by decide) ?_
        obtain ⟨s2014, hs2014⟩ : ∃ x0, x0 = uC t 158 (c).toNat (Int32.ofInt (iC t 157 (c).toNat)) := ⟨_, rfl⟩
        rw [← hs2014]
        have Is2014 : Bd s2014 := by rw [hs2014]; exact bd_C I (show (0 : Int) ≤ (iC t 157 (c).toNat) ∧ (iC t 157 (c).toNat) ≤ 255 by first | exact ⟨b2013.1, b2013.2⟩ | omega) (rng_to _)
        have Fs2014 := fm_C (i := (c).toNat) (x := Int32.ofInt (iC t 157 (c).toNat)) F (show 158 ∈ _ by decide)
        rw [← hs2014] at Fs2014
        have ws2014_73 : iI s2014 73 = iI t 73 := by rw [hs2014]; rfl
        have ws2014_74 : iI s2014 74 = iI t 74 := by rw [hs2014]; rfl
        have ws2014_77 : iI s2014 77 = iI t 77 := by rw [hs2014]; rfl
        have ws2014_75 : iI s2014 75 = iI t 75 := by rw [hs2014]; rfl
        have ws2014_79 : iI s2014 79 = iI t 79 := by rw [hs2014]; rfl
        have ws2014_78 : iI s2014 78 = iI t 78 := by rw [hs2014]; rfl
        have ws2014_86 : iI s2014 86 = iI t 86 := by rw [hs2014]; rfl
        have ws2014_87 : iI s2014 87 = iI t 87 := by rw [hs2014]; rfl
        have ws2014_88 : iI s2014 88 = iI t 88 := by rw [hs2014]; rfl
        have ws2014_81 : iI s2014 81 = iI t 81 := by rw [hs2014]; rfl
        have ws2014_83 : iI s2014 83 = iI t 83 := by rw [hs2014]; rfl
        have fs2014 : Fm [] [158] t s2014 := by rw [hs2014]; exact fm_C (fm_rf _ _ _) (show 158 ∈ _ by decide)
        have JFDA_s2014 : FDA B s2014 := FDA_fm fs2014 (by decide) jjFDA
        refine z_inc X (x := c) (lv' := [(2, .int (Int32.ofInt (c + 1))), (0, .ref (A 179)), (1, .int (Int32.ofInt xv))]) (show cdA 214 132 = some (.iinc 2 1, 3, 0, 0, 0) from rfl) (by decide) (List.Mem.tail _ (List.Mem.tail _ (List.Mem.head _))) (fun _ h => h) ?_
        refine z_goto X (t := 115) (show cdA 214 135 = some (.goto (-20), 3, 0, 0, 0) from rfl) (by decide) ?_
        refine WS_lv (lv := [(0, .ref (A 179)), (1, .int (Int32.ofInt xv)), (2, .int (Int32.ofInt (c + 1)))]) (List.forall_mem_cons.mpr ⟨(List.Mem.tail _ (List.Mem.head _)), (List.forall_mem_cons.mpr ⟨(List.Mem.tail _ (List.Mem.tail _ (List.Mem.head _))), (List.forall_mem_cons.mpr ⟨(List.Mem.head _), (fun q h => absurd h List.not_mem_nil)⟩)⟩)⟩) ?_
        exact ih _ xv (c + 1) Is2014 Fs2014 JFDA_s2014 (by rw [show iI s2014 86 = iI t 86 by omega]; exact hq) (by first | exact ⟨hi.1, And.intro (hi.2.1.1) (hi.2.1.2), oq_333640b7 ws2014_74 hi.2.2.1 b2002.1, oq_54f49eb5 hi.2.2.2.1, oq_ab052403 g2012 hi.1 hi.2.1.2 b2.2, oq_e7b9ecab ws2014_86 ws2014_87 hi.2.2.2.2.2.1, oq_b1fe1193 ws2014_75 b2004.2, oq_333640b7 ws2014_73 hi.2.2.2.2.2.2.2 b2001.1⟩ | omega) (by first | exact qk_me hm (by decide) (oq_6d25f473 g2012 hi.1 hi.2.1.2 b2.2) | omega) kx
  have L169 : ∀ (n : Nat) (t : PS) (xv c : Int), Bd t → Fm [73, 74, 76, 82, 83, 84, 85, 77, 75, 78, 79, 80, 81, 86, 87, 88] [160, 159, 158] s t → FDA B t → (RUA B x (iI t 83)) → (xv = x ∧ (0 ≤ x ∧ x ≤ iI s 74) ∧ iI t 74 = 0 ∧ 0 ≤ c ∧ c ≤ 8 ∧ iI t 73 = 0) → (8 - c : Int).toNat < n → (∀ (t' : PS) (c' : Int), Bd t' → Fm [73, 74, 76, 82, 83, 84, 85, 77, 75, 78, 79, 80, 81, 86, 87, 88] [160, 159, 158] s t' → FDA B t' → (RUA B x (iI t' 83)) → (xv = x ∧ (0 ≤ x ∧ x ≤ iI s 74) ∧ iI t' 74 = 0 ∧ 0 ≤ c' ∧ c' ≤ 8 ∧ iI t' 73 = 0) → WS k 195 [(0, .ref (A 179)), (1, .int (Int32.ofInt xv)), (2, .int (Int32.ofInt c'))] [] (Wd A dT t') 0 0) → WS k 169 [(0, .ref (A 179)), (1, .int (Int32.ofInt xv)), (2, .int (Int32.ofInt c))] [] (Wd A dT t) 0 0 := by
    intro n
    induction n with
    | zero =>
      intro t xv c I F jjFDA hq hi hm kx
      exact absurd hm (Nat.not_lt_zero _)
    | succ n ih =>
      intro t xv c I F jjFDA hq hi hm kx
      have b3001 : (0 : Int) ≤ iI t 73 ∧ iI t 73 ≤ 3 := I.1 73
      have b3002 : (0 : Int) ≤ iI t 74 ∧ iI t 74 ≤ 200 := I.1 74
      have b3003 : (0 : Int) ≤ iI t 77 ∧ iI t 77 ≤ 400 := I.1 77
      have b3004 : (0 : Int) ≤ iI t 75 ∧ iI t 75 ≤ 200 := I.1 75
      have b3005 : (0 : Int) ≤ iI t 79 ∧ iI t 79 ≤ 9 := I.1 79
      have b3006 : (0 : Int) ≤ iI t 78 ∧ iI t 78 ≤ 8 := I.1 78
      have b3007 : (0 : Int) ≤ iI t 86 ∧ iI t 86 ≤ 8 := I.1 86
      have b3008 : (0 : Int) ≤ iI t 87 ∧ iI t 87 ≤ 8 := I.1 87
      have b3009 : ((-1) : Int) ≤ iI t 88 ∧ iI t 88 ≤ 200 := I.1 88
      have b3010 : (0 : Int) ≤ iI t 81 ∧ iI t 81 ≤ 1 := I.1 81
      have b3011 : (0 : Int) ≤ iI t 83 ∧ iI t 83 ≤ 8 := I.1 83
      refine z_load_n X (x := c) (show cdA 214 169 = some (.iload_n 2, 1, 0, 0, 0) from rfl) (List.Mem.tail _ (List.Mem.tail _ (List.Mem.head _))) ?_
      refine z_aload_n X (x := A 179) (show cdA 214 170 = some (.aload_n 0, 1, 0, 0, 0) from rfl) (List.Mem.head _) ?_
      refine z_getI X 179 (show cdA 214 171 = some (.getfield 300, 3, 12, 13, 0) from rfl) (by decide) rfl rfl ?_
      have b3012 : (0 : Int) ≤ iI t 84 ∧ iI t 84 ≤ 8 := I.1 84
      refine z_icmp_ge X (t := 195) (show cdA 214 174 = some (.if_icmp .ge 21, 3, 3, 0, 0) from rfl) (by decide) ⟨by first | exact oq_fa4e5087 hi.2.2.2.1 | omega, by first | exact oq_d3f5d874 hi.2.2.2.2.1 | omega⟩ (rng_to _) (fun g3013 => ?_) (fun g3013 => ?_)
      ·
        refine WS_lv (lv := [(0, .ref (A 179)), (1, .int (Int32.ofInt xv)), (2, .int (Int32.ofInt c))]) (List.forall_mem_cons.mpr ⟨(List.Mem.head _), (List.forall_mem_cons.mpr ⟨(List.Mem.tail _ (List.Mem.head _)), (List.forall_mem_cons.mpr ⟨(List.Mem.tail _ (List.Mem.tail _ (List.Mem.head _))), (fun q h => absurd h List.not_mem_nil)⟩)⟩)⟩) ?_
        exact kx _ c I F jjFDA hq (by first | exact ⟨hi.1, And.intro (hi.2.1.1) (hi.2.1.2), hi.2.2.1, hi.2.2.2.1, hi.2.2.2.2.1, hi.2.2.2.2.2⟩ | omega)
      ·
        refine z_aload_n X (x := A 179) (show cdA 214 177 = some (.aload_n 0, 1, 0, 0, 0) from rfl) (List.Mem.head _) ?_
        refine s_getR X 179 (show cdA 214 178 = some (.getfield 23, 3, 12, 15, 0) from rfl) (by decide) rfl rfl ?_
        refine z_load_n X (x := c) (show cdA 214 181 = some (.iload_n 2, 1, 0, 0, 0) from rfl) (List.Mem.tail _ (List.Mem.tail _ (List.Mem.head _))) ?_
        refine z_aload_n X (x := A 179) (show cdA 214 182 = some (.aload_n 0, 1, 0, 0, 0) from rfl) (List.Mem.head _) ?_
        refine s_getR X 179 (show cdA 214 183 = some (.getfield 29, 3, 12, 20, 0) from rfl) (by decide) rfl rfl ?_
        refine z_load_n X (x := c) (show cdA 214 186 = some (.iload_n 2, 1, 0, 0, 0) from rfl) (List.Mem.tail _ (List.Mem.tail _ (List.Mem.head _))) ?_
        refine z_ald X 183 (show cdA 214 187 = some (.iaload, 1, 0, 0, 0) from rfl) (by decide) rfl (by first | exact hi.2.2.2.1 | omega) (show c < 8 by first | exact oq_7f5b2e79 g3013 b3012.2 | omega) (by decide) ?_
        have b3014 : (0 : Int) ≤ iC t 160 (c).toNat ∧ iC t 160 (c).toNat ≤ 200 := I.2 160 _ (show (c).toNat < 8 by first | exact oq_67be0351 g3013 b3012.2 | omega)
        refine z_ast X 182 (show cdA 214 188 = some (.iastore, 1, 0, 0, 0) from rfl) (by decide) rfl (by first | exact hi.2.2.2.1 | omega) (show c < 8 by first | exact oq_7f5b2e79 g3013 b3012.2 | omega) (by decide) ?_
        obtain ⟨s3015, hs3015⟩ : ∃ x0, x0 = uC t 159 (c).toNat (Int32.ofInt (iC t 160 (c).toNat)) := ⟨_, rfl⟩
        rw [← hs3015]
        have Is3015 : Bd s3015 := by rw [hs3015]; exact bd_C I (show (0 : Int) ≤ (iC t 160 (c).toNat) ∧ (iC t 160 (c).toNat) ≤ 200 by first | exact ⟨b3014.1, b3014.2⟩ | omega) (rng_to _)
        have Fs3015 := fm_C (i := (c).toNat) (x := Int32.ofInt (iC t 160 (c).toNat)) F (show 159 ∈ _ by decide)
        rw [← hs3015] at Fs3015
        have ws3015_73 : iI s3015 73 = iI t 73 := by rw [hs3015]; rfl
        have ws3015_74 : iI s3015 74 = iI t 74 := by rw [hs3015]; rfl
        have ws3015_77 : iI s3015 77 = iI t 77 := by rw [hs3015]; rfl
        have ws3015_75 : iI s3015 75 = iI t 75 := by rw [hs3015]; rfl
        have ws3015_79 : iI s3015 79 = iI t 79 := by rw [hs3015]; rfl
        have ws3015_78 : iI s3015 78 = iI t 78 := by rw [hs3015]; rfl
        have ws3015_86 : iI s3015 86 = iI t 86 := by rw [hs3015]; rfl
        have ws3015_87 : iI s3015 87 = iI t 87 := by rw [hs3015]; rfl
        have ws3015_88 : iI s3015 88 = iI t 88 := by rw [hs3015]; rfl
        have ws3015_81 : iI s3015 81 = iI t 81 := by rw [hs3015]; rfl
        have ws3015_83 : iI s3015 83 = iI t 83 := by rw [hs3015]; rfl
        have fs3015 : Fm [] [159] t s3015 := by rw [hs3015]; exact fm_C (fm_rf _ _ _) (show 159 ∈ _ by decide)
        have JFDA_s3015 : FDA B s3015 := FDA_fm fs3015 (by decide) jjFDA
        refine z_inc X (x := c) (lv' := [(2, .int (Int32.ofInt (c + 1))), (0, .ref (A 179)), (1, .int (Int32.ofInt xv))]) (show cdA 214 189 = some (.iinc 2 1, 3, 0, 0, 0) from rfl) (by decide) (List.Mem.tail _ (List.Mem.tail _ (List.Mem.head _))) (fun _ h => h) ?_
        refine z_goto X (t := 169) (show cdA 214 192 = some (.goto (-23), 3, 0, 0, 0) from rfl) (by decide) ?_
        refine WS_lv (lv := [(0, .ref (A 179)), (1, .int (Int32.ofInt xv)), (2, .int (Int32.ofInt (c + 1)))]) (List.forall_mem_cons.mpr ⟨(List.Mem.tail _ (List.Mem.head _)), (List.forall_mem_cons.mpr ⟨(List.Mem.tail _ (List.Mem.tail _ (List.Mem.head _))), (List.forall_mem_cons.mpr ⟨(List.Mem.head _), (fun q h => absurd h List.not_mem_nil)⟩)⟩)⟩) ?_
        exact ih _ xv (c + 1) Is3015 Fs3015 JFDA_s3015 (by rw [show iI s3015 83 = iI t 83 by omega]; exact hq) (by first | exact ⟨hi.1, And.intro (hi.2.1.1) (hi.2.1.2), oq_333640b7 ws3015_74 hi.2.2.1 b3002.1, oq_54f49eb5 hi.2.2.2.1, oq_f6204d84 g3013 b3012.2, oq_333640b7 ws3015_73 hi.2.2.2.2.2 b3001.1⟩ | omega) (by first | exact qk_me hm (by decide) (oq_ccc5e5e0 g3013 b3012.2) | omega) kx
  refine z_aload_n X (x := A 179) (show cdA 214 0 = some (.aload_n 0, 1, 0, 0, 0) from rfl) (List.Mem.head _) ?_
  refine z_const X (show cdA 214 1 = some (.iconst 0, 1, 0, 0, 0) from rfl) ?_
  refine s_putI X 179 (show cdA 214 2 = some (.putfield 172, 3, 12, 0, 0) from rfl) (by decide) rfl rfl (by decide) rfl rfl rfl ?_
  obtain ⟨s12, hs12⟩ : ∃ x0, x0 = uI s 73 (Int32.ofInt 0) := ⟨_, rfl⟩
  rw [← hs12]
  have Is12 : Bd s12 := by rw [hs12]; exact bd_I I (show (0 : Int) ≤ 0 ∧ 0 ≤ 3 by first | exact ⟨by decide, by decide⟩ | omega) (by decide)
  have Fs12 := fm_I (x := Int32.ofInt 0) F (show 73 ∈ _ by decide)
  rw [← hs12] at Fs12
  have vs12 : iI s12 73 = 0 := by rw [hs12]; exact iI_u (by decide)
  have ws12_74 : iI s12 74 = iI s 74 := by rw [hs12]; rfl
  have ws12_77 : iI s12 77 = iI s 77 := by rw [hs12]; rfl
  have ws12_75 : iI s12 75 = iI s 75 := by rw [hs12]; rfl
  have ws12_79 : iI s12 79 = iI s 79 := by rw [hs12]; rfl
  have ws12_78 : iI s12 78 = iI s 78 := by rw [hs12]; rfl
  have ws12_86 : iI s12 86 = iI s 86 := by rw [hs12]; rfl
  have ws12_87 : iI s12 87 = iI s 87 := by rw [hs12]; rfl
  have ws12_88 : iI s12 88 = iI s 88 := by rw [hs12]; rfl
  have ws12_81 : iI s12 81 = iI s 81 := by rw [hs12]; rfl
  have ws12_83 : iI s12 83 = iI s 83 := by rw [hs12]; rfl
  have fs12 : Fm [73] [] s s12 := by rw [hs12]; exact fm_I (fm_rf _ _ _) (show 73 ∈ _ by decide)
  have JFDA_s12 : FDA B s12 := FDA_fm fs12 (by decide) jFDA
  refine z_aload_n X (x := A 179) (show cdA 214 5 = some (.aload_n 0, 1, 0, 0, 0) from rfl) (List.Mem.head _) ?_
  refine z_load_n X (x := x) (show cdA 214 6 = some (.iload_n 1, 1, 0, 0, 0) from rfl) (List.Mem.tail _ (List.Mem.head _)) ?_
  refine z_const X (show cdA 214 7 = some (.iconst 0, 1, 0, 0, 0) from rfl) ?_
  refine z_aload_n X (x := A 179) (show cdA 214 8 = some (.aload_n 0, 1, 0, 0, 0) from rfl) (List.Mem.head _) ?_
  refine z_getI X 179 (show cdA 214 9 = some (.getfield 175, 3, 12, 1, 0) from rfl) (by decide) rfl rfl ?_
  have b13 : (0 : Int) ≤ iI s12 74 ∧ iI s12 74 ≤ 200 := Is12.1 74
  refine z_callS X (rm := rmN 188) (As := [.int (Int32.ofInt x), .int (Int32.ofInt 0), .int (Int32.ofInt (iI s12 74))]) (st := [.ref (A 179)]) (show cdA 214 12 = some (.invokestatic 209, 3, 188, 1, 0) from rfl) rfl (by rw [E.1, E.2.1, E.2.2.1]; exact k_in2 G Is12 (by first | exact ⟨p0.1, p0.2⟩ | omega) (by first | exact ⟨by decide, by decide⟩ | omega) (by first | exact ⟨oq_fa4e5087 b13.1, oq_52af2b96 b13.2⟩ | omega)) ⟨by rw [E.2.2.2]; exact (show (rmN 188).frames + 1 ≤ (rmN 214).frames by decide), by rw [E.2.2.2]; exact (show 8 + (mNL (miB 188) + 11) + (rmN 188).locals ≤ (rmN 214).locals by decide), by rw [E.2.2.2]; exact (show 0 + (rmN 188).cells ≤ (rmN 214).cells by decide), by rw [E.2.2.2]; exact (show 0 + (rmN 188).slots ≤ (rmN 214).slots by decide)⟩ (Nat.le_of_ble_eq_true rfl) (fun vv s14 hq => ?_) (fun ee s14 hq => ?_)
  rotate_left
  · obtain ⟨rfl, e15, hv, hrs14, hps14⟩ := hq; cases hv
  obtain ⟨rfl, e15, hv, hrs14, hps14⟩ := hq
  cases hv
  show WS k 15 [(0, .ref (A 179)), (1, .int (Int32.ofInt x))] [.int (Int32.ofInt e15), .ref (A 179)] (Wd A dT s12) 0 0
  have N16 : ∀ e17 : Int, (((e15 ≠ 0) ∧ e17 = 0) ∨ ((e15 = 0) ∧ e17 = 1)) → WS k 23 [(0, .ref (A 179)), (1, .int (Int32.ofInt x))] [.int (Int32.ofInt e17), .ref (A 179)] (Wd A dT s12) 0 0 := by
    intro e17 he17
    have re17 : 0 ≤ e17 ∧ e17 ≤ 1 := by omega
    refine z_const X (show cdA 214 23 = some (.iconst 1, 1, 0, 0, 0) from rfl) ?_
    refine z_callV X 179 (rm := rmN 187) (As := [.int (Int32.ofInt e17), .int (Int32.ofInt 1)]) (st := []) (show cdA 214 24 = some (.invokevirtual 229, 3, 187, 0, 0) from rfl) rfl (by decide) rfl (by rw [E.1, E.2.1, E.2.2.1]; exact k_bad2 G Is12 (by first | exact oq_31e518ae re17.2 re17.1 | omega) (by first | exact ⟨by decide, by decide⟩ | omega)) ⟨by rw [E.2.2.2]; exact (show (rmN 187).frames + 1 ≤ (rmN 214).frames by decide), by rw [E.2.2.2]; exact (show 8 + (mNL (miB 187) + 11) + (rmN 187).locals ≤ (rmN 214).locals by decide), by rw [E.2.2.2]; exact (show 0 + (rmN 187).cells ≤ (rmN 214).cells by decide), by rw [E.2.2.2]; exact (show 0 + (rmN 187).slots ≤ (rmN 214).slots by decide)⟩ (Nat.le_of_ble_eq_true rfl) (fun vv s18 hq => ?_) (fun ee s18 hq => ?_)
    rotate_left
    · obtain ⟨Is18, Fs18, e19, hv, hrs18, hps18⟩ := hq; cases hv
    obtain ⟨Is18, Fs18, e19, hv, hrs18, hps18⟩ := hq
    cases hv
    have Gs18 := fm_ts Fs12 Fs18 (by decide) (by decide)
    have JFDA_s18 : FDA B s18 := FDA_fm Fs18 (by decide) JFDA_s12
    have b20 : (0 : Int) ≤ iI s18 73 ∧ iI s18 73 ≤ 3 := Is18.1 73
    have ws18_74 : iI s18 74 = iI s12 74 := fm_i Fs18 (by decide)
    have ws18_77 : iI s18 77 = iI s12 77 := fm_i Fs18 (by decide)
    have ws18_75 : iI s18 75 = iI s12 75 := fm_i Fs18 (by decide)
    have ws18_79 : iI s18 79 = iI s12 79 := fm_i Fs18 (by decide)
    have ws18_78 : iI s18 78 = iI s12 78 := fm_i Fs18 (by decide)
    have ws18_86 : iI s18 86 = iI s12 86 := fm_i Fs18 (by decide)
    have ws18_87 : iI s18 87 = iI s12 87 := fm_i Fs18 (by decide)
    have ws18_88 : iI s18 88 = iI s12 88 := fm_i Fs18 (by decide)
    have ws18_81 : iI s18 81 = iI s12 81 := fm_i Fs18 (by decide)
    have ws18_83 : iI s18 83 = iI s12 83 := fm_i Fs18 (by decide)
    show WS k 27 [(0, .ref (A 179)), (1, .int (Int32.ofInt x))] [.int (Int32.ofInt e19)] (Wd A dT s18) 0 0
    refine z_if_eq X (t := 32) (show cdA 214 27 = some (.ifCond .eq 5, 3, 0, 0, 0) from rfl) (by decide) hrs18 (fun g21 => ?_) (fun g21 => ?_)
    ·
      refine z_aload_n X (x := A 179) (show cdA 214 32 = some (.aload_n 0, 1, 0, 0, 0) from rfl) (List.Mem.head _) ?_
      refine z_const X (show cdA 214 33 = some (.iconst 0, 1, 0, 0, 0) from rfl) ?_
      refine s_putI X 179 (show cdA 214 34 = some (.putfield 175, 3, 12, 1, 0) from rfl) (by decide) rfl rfl (by decide) rfl rfl rfl ?_
      obtain ⟨s22, hs22⟩ : ∃ x0, x0 = uI s18 74 (Int32.ofInt 0) := ⟨_, rfl⟩
      rw [← hs22]
      have Is22 : Bd s22 := by rw [hs22]; exact bd_I Is18 (show (0 : Int) ≤ 0 ∧ 0 ≤ 200 by first | exact ⟨by decide, by decide⟩ | omega) (by decide)
      have Fs22 := fm_I (x := Int32.ofInt 0) Gs18 (show 74 ∈ _ by decide)
      rw [← hs22] at Fs22
      have vs22 : iI s22 74 = 0 := by rw [hs22]; exact iI_u (by decide)
      have ws22_73 : iI s22 73 = iI s18 73 := by rw [hs22]; rfl
      have ws22_77 : iI s22 77 = iI s18 77 := by rw [hs22]; rfl
      have ws22_75 : iI s22 75 = iI s18 75 := by rw [hs22]; rfl
      have ws22_79 : iI s22 79 = iI s18 79 := by rw [hs22]; rfl
      have ws22_78 : iI s22 78 = iI s18 78 := by rw [hs22]; rfl
      have ws22_86 : iI s22 86 = iI s18 86 := by rw [hs22]; rfl
      have ws22_87 : iI s22 87 = iI s18 87 := by rw [hs22]; rfl
      have ws22_88 : iI s22 88 = iI s18 88 := by rw [hs22]; rfl
      have ws22_81 : iI s22 81 = iI s18 81 := by rw [hs22]; rfl
      have ws22_83 : iI s22 83 = iI s18 83 := by rw [hs22]; rfl
      have fs22 : Fm [74] [] s18 s22 := by rw [hs22]; exact fm_I (fm_rf _ _ _) (show 74 ∈ _ by decide)
      have JFDA_s22 : FDA B s22 := FDA_fm fs22 (by decide) JFDA_s18
      refine z_aload_n X (x := A 179) (show cdA 214 37 = some (.aload_n 0, 1, 0, 0, 0) from rfl) (List.Mem.head _) ?_
      refine z_load_n X (x := x) (show cdA 214 38 = some (.iload_n 1, 1, 0, 0, 0) from rfl) (List.Mem.tail _ (List.Mem.head _)) ?_
      refine z_callV X 179 (rm := rmN 197) (As := [.int (Int32.ofInt x)]) (st := []) (show cdA 214 39 = some (.invokevirtual 236, 3, 197, 0, 0) from rfl) rfl (by decide) rfl (by rw [E.1, E.2.1, E.2.2.1]; exact k_beginText2 G Is22 (by first | exact ⟨oq_17aafd1d g21 hps18 he17 hps14 vs12, oq_372c3971 g21 hps18 he17 hps14 b13.2 vs12⟩ | omega)) ⟨by rw [E.2.2.2]; exact (show (rmN 197).frames + 1 ≤ (rmN 214).frames by decide), by rw [E.2.2.2]; exact (show 8 + (mNL (miB 197) + 11) + (rmN 197).locals ≤ (rmN 214).locals by decide), by rw [E.2.2.2]; exact (show 0 + (rmN 197).cells ≤ (rmN 214).cells by decide), by rw [E.2.2.2]; exact (show 0 + (rmN 197).slots ≤ (rmN 214).slots by decide)⟩ (Nat.le_of_ble_eq_true rfl) (fun vv s23 hq => ?_) (fun ee s23 hq => ?_)
      rotate_left
      · obtain ⟨Is23, Fs23, hv, hps23⟩ := hq; cases hv
      obtain ⟨Is23, Fs23, hv, hps23⟩ := hq
      cases hv
      have Gs23 := fm_ts Fs22 Fs23 (by decide) (by decide)
      have JFDA_s23 : FDA B s23 := FDA_fm Fs23 (by decide) JFDA_s22
      have ws23_73 : iI s23 73 = iI s22 73 := fm_i Fs23 (by decide)
      have ws23_74 : iI s23 74 = iI s22 74 := fm_i Fs23 (by decide)
      have b25 : (0 : Int) ≤ iI s23 77 ∧ iI s23 77 ≤ 400 := Is23.1 77
      have b26 : (0 : Int) ≤ iI s23 75 ∧ iI s23 75 ≤ 200 := Is23.1 75
      have b27 : (0 : Int) ≤ iI s23 79 ∧ iI s23 79 ≤ 9 := Is23.1 79
      have b28 : (0 : Int) ≤ iI s23 78 ∧ iI s23 78 ≤ 8 := Is23.1 78
      have ws23_86 : iI s23 86 = iI s22 86 := fm_i Fs23 (by decide)
      have ws23_87 : iI s23 87 = iI s22 87 := fm_i Fs23 (by decide)
      have ws23_88 : iI s23 88 = iI s22 88 := fm_i Fs23 (by decide)
      have b29 : (0 : Int) ≤ iI s23 81 ∧ iI s23 81 ≤ 1 := Is23.1 81
      have ws23_83 : iI s23 83 = iI s22 83 := fm_i Fs23 (by decide)
      show WS k 42 [(0, .ref (A 179)), (1, .int (Int32.ofInt x))] [] (Wd A dT s23) 0 0
      refine z_aload_n X (x := A 179) (show cdA 214 42 = some (.aload_n 0, 1, 0, 0, 0) from rfl) (List.Mem.head _) ?_
      refine z_const X (show cdA 214 43 = some (.iconst 0, 1, 0, 0, 0) from rfl) ?_
      refine s_putI X 179 (show cdA 214 44 = some (.putfield 282, 3, 12, 16, 0) from rfl) (by decide) rfl rfl (by decide) rfl rfl rfl ?_
      obtain ⟨s30, hs30⟩ : ∃ x0, x0 = uI s23 86 (Int32.ofInt 0) := ⟨_, rfl⟩
      rw [← hs30]
      have Is30 : Bd s30 := by rw [hs30]; exact bd_I Is23 (show (0 : Int) ≤ 0 ∧ 0 ≤ 8 by first | exact ⟨by decide, by decide⟩ | omega) (by decide)
      have Fs30 := fm_I (x := Int32.ofInt 0) Gs23 (show 86 ∈ _ by decide)
      rw [← hs30] at Fs30
      have vs30 : iI s30 86 = 0 := by rw [hs30]; exact iI_u (by decide)
      have ws30_73 : iI s30 73 = iI s23 73 := by rw [hs30]; rfl
      have ws30_74 : iI s30 74 = iI s23 74 := by rw [hs30]; rfl
      have ws30_77 : iI s30 77 = iI s23 77 := by rw [hs30]; rfl
      have ws30_75 : iI s30 75 = iI s23 75 := by rw [hs30]; rfl
      have ws30_79 : iI s30 79 = iI s23 79 := by rw [hs30]; rfl
      have ws30_78 : iI s30 78 = iI s23 78 := by rw [hs30]; rfl
      have ws30_87 : iI s30 87 = iI s23 87 := by rw [hs30]; rfl
      have ws30_88 : iI s30 88 = iI s23 88 := by rw [hs30]; rfl
      have ws30_81 : iI s30 81 = iI s23 81 := by rw [hs30]; rfl
      have ws30_83 : iI s30 83 = iI s23 83 := by rw [hs30]; rfl
      have fs30 : Fm [86] [] s23 s30 := by rw [hs30]; exact fm_I (fm_rf _ _ _) (show 86 ∈ _ by decide)
      have JFDA_s30 : FDA B s30 := FDA_fm fs30 (by decide) JFDA_s23
      refine z_aload_n X (x := A 179) (show cdA 214 47 = some (.aload_n 0, 1, 0, 0, 0) from rfl) (List.Mem.head _) ?_
      refine z_const X (show cdA 214 48 = some (.iconst 0, 1, 0, 0, 0) from rfl) ?_
      refine s_putI X 179 (show cdA 214 49 = some (.putfield 288, 3, 12, 17, 0) from rfl) (by decide) rfl rfl (by decide) rfl rfl rfl ?_
      obtain ⟨s31, hs31⟩ : ∃ x0, x0 = uI s30 87 (Int32.ofInt 0) := ⟨_, rfl⟩
      rw [← hs31]
      have Is31 : Bd s31 := by rw [hs31]; exact bd_I Is30 (show (0 : Int) ≤ 0 ∧ 0 ≤ 8 by first | exact ⟨by decide, by decide⟩ | omega) (by decide)
      have Fs31 := fm_I (x := Int32.ofInt 0) Fs30 (show 87 ∈ _ by decide)
      rw [← hs31] at Fs31
      have vs31 : iI s31 87 = 0 := by rw [hs31]; exact iI_u (by decide)
      have ws31_73 : iI s31 73 = iI s30 73 := by rw [hs31]; rfl
      have ws31_74 : iI s31 74 = iI s30 74 := by rw [hs31]; rfl
      have ws31_77 : iI s31 77 = iI s30 77 := by rw [hs31]; rfl
      have ws31_75 : iI s31 75 = iI s30 75 := by rw [hs31]; rfl
      have ws31_79 : iI s31 79 = iI s30 79 := by rw [hs31]; rfl
      have ws31_78 : iI s31 78 = iI s30 78 := by rw [hs31]; rfl
      have ws31_86 : iI s31 86 = iI s30 86 := by rw [hs31]; rfl
      have ws31_88 : iI s31 88 = iI s30 88 := by rw [hs31]; rfl
      have ws31_81 : iI s31 81 = iI s30 81 := by rw [hs31]; rfl
      have ws31_83 : iI s31 83 = iI s30 83 := by rw [hs31]; rfl
      have fs31 : Fm [87] [] s30 s31 := by rw [hs31]; exact fm_I (fm_rf _ _ _) (show 87 ∈ _ by decide)
      have JFDA_s31 : FDA B s31 := FDA_fm fs31 (by decide) JFDA_s30
      refine z_aload_n X (x := A 179) (show cdA 214 52 = some (.aload_n 0, 1, 0, 0, 0) from rfl) (List.Mem.head _) ?_
      refine z_const X (show cdA 214 53 = some (.iconst (-1), 1, 0, 0, 0) from rfl) ?_
      refine s_putI X 179 (show cdA 214 54 = some (.putfield 285, 3, 12, 18, 0) from rfl) (by decide) rfl rfl (by decide) rfl rfl rfl ?_
      obtain ⟨s32, hs32⟩ : ∃ x0, x0 = uI s31 88 (Int32.ofInt (-1)) := ⟨_, rfl⟩
      rw [← hs32]
      have Is32 : Bd s32 := by rw [hs32]; exact bd_I Is31 (show ((-1) : Int) ≤ (-1) ∧ (-1) ≤ 200 by first | exact ⟨by decide, by decide⟩ | omega) (by decide)
      have Fs32 := fm_I (x := Int32.ofInt (-1)) Fs31 (show 88 ∈ _ by decide)
      rw [← hs32] at Fs32
      have vs32 : iI s32 88 = (-1) := by rw [hs32]; exact iI_u (by decide)
      have ws32_73 : iI s32 73 = iI s31 73 := by rw [hs32]; rfl
      have ws32_74 : iI s32 74 = iI s31 74 := by rw [hs32]; rfl
      have ws32_77 : iI s32 77 = iI s31 77 := by rw [hs32]; rfl
      have ws32_75 : iI s32 75 = iI s31 75 := by rw [hs32]; rfl
      have ws32_79 : iI s32 79 = iI s31 79 := by rw [hs32]; rfl
      have ws32_78 : iI s32 78 = iI s31 78 := by rw [hs32]; rfl
      have ws32_86 : iI s32 86 = iI s31 86 := by rw [hs32]; rfl
      have ws32_87 : iI s32 87 = iI s31 87 := by rw [hs32]; rfl
      have ws32_81 : iI s32 81 = iI s31 81 := by rw [hs32]; rfl
      have ws32_83 : iI s32 83 = iI s31 83 := by rw [hs32]; rfl
      have fs32 : Fm [88] [] s31 s32 := by rw [hs32]; exact fm_I (fm_rf _ _ _) (show 88 ∈ _ by decide)
      have JFDA_s32 : FDA B s32 := FDA_fm fs32 (by decide) JFDA_s31
      have JBs32 : FDB B x s32 := ⟨fda_n JFDA_s32 (by omega) (by omega), by omega, by omega⟩
      refine z_aload_n X (x := A 179) (show cdA 214 57 = some (.aload_n 0, 1, 0, 0, 0) from rfl) (List.Mem.head _) ?_
      refine z_callV X 179 (rm := rmN 193) (As := []) (st := []) (show cdA 214 58 = some (.invokevirtual 197, 3, 193, 0, 0) from rfl) rfl (by decide) rfl (by rw [E.1, E.2.1, E.2.2.1]; exact k_blanks2 G Is32 JBs32 (by first | exact oq_1cee15ac ws32_77 ws31_77 ws30_77 hps23.2.1 | omega)) ⟨by rw [E.2.2.2]; exact (show (rmN 193).frames + 1 ≤ (rmN 214).frames by decide), by rw [E.2.2.2]; exact (show 8 + (mNL (miB 193) + 11) + (rmN 193).locals ≤ (rmN 214).locals by decide), by rw [E.2.2.2]; exact (show 0 + (rmN 193).cells ≤ (rmN 214).cells by decide), by rw [E.2.2.2]; exact (show 0 + (rmN 193).slots ≤ (rmN 214).slots by decide)⟩ (Nat.le_of_ble_eq_true rfl) (fun vv s33 hq => ?_) (fun ee s33 hq => ?_)
      rotate_left
      · obtain ⟨Is33, Fs33, JFDB_s33, hv, hps33⟩ := hq; cases hv
      obtain ⟨Is33, Fs33, JFDB_s33, hv, hps33⟩ := hq
      cases hv
      have Gs33 := fm_ts Fs32 Fs33 (by decide) (by decide)
      have JFDA_s33 : FDA B s33 := FDA_fm Fs33 (by decide) JFDA_s32
      have JFDB_s33 : FDB B x s33 := FDB_fm Fs33 (by decide) JBs32
      have ws33_73 : iI s33 73 = iI s32 73 := fm_i Fs33 (by decide)
      have ws33_74 : iI s33 74 = iI s32 74 := fm_i Fs33 (by decide)
      have b35 : (0 : Int) ≤ iI s33 77 ∧ iI s33 77 ≤ 400 := Is33.1 77
      have ws33_75 : iI s33 75 = iI s32 75 := fm_i Fs33 (by decide)
      have ws33_79 : iI s33 79 = iI s32 79 := fm_i Fs33 (by decide)
      have ws33_78 : iI s33 78 = iI s32 78 := fm_i Fs33 (by decide)
      have ws33_86 : iI s33 86 = iI s32 86 := fm_i Fs33 (by decide)
      have ws33_87 : iI s33 87 = iI s32 87 := fm_i Fs33 (by decide)
      have ws33_88 : iI s33 88 = iI s32 88 := fm_i Fs33 (by decide)
      have ws33_81 : iI s33 81 = iI s32 81 := fm_i Fs33 (by decide)
      have ws33_83 : iI s33 83 = iI s32 83 := fm_i Fs33 (by decide)
      show WS k 61 [(0, .ref (A 179)), (1, .int (Int32.ofInt x))] [] (Wd A dT s33) 0 0
      refine WS_lv (lv := [(0, .ref (A 179)), (1, .int (Int32.ofInt x))]) (List.forall_mem_cons.mpr ⟨(List.Mem.head _), (List.forall_mem_cons.mpr ⟨(List.Mem.tail _ (List.Mem.head _)), (fun q h => absurd h List.not_mem_nil)⟩)⟩) ?_
      refine L61 ((400 - iI s33 77 + (9 - iI s33 79) : Int).toNat + 1) s33 x Is33 Gs33 JFDA_s33 ⟨chm_0 (by omega) (by omega) (by rw [hps33.1, sk_sk, show iI s32 77 = 0 by omega]), by rw [hps33.1]; exact sk_sk⟩ (by first | exact ⟨by decide, oq_cea4b70d g21 hps18 he17 hps14 b13.2 ws12_74 vs12, oq_d9a35dd1 ws33_74 ws32_74 ws31_74 ws30_74 ws23_74 vs22, oq_b4d295d9 ws33_75 hps23.1 ws32_75 ws31_75 ws30_75, oq_d0299403 ws33_78 ws32_78 ws31_78 ws30_78 hps23.2.2.1 b28.1, by omega, by omega, oq_606f3a06 ws33_87 ws33_86 ws32_87 ws32_86 ws31_86 vs31 vs30, oq_d0299403 ws33_81 ws32_81 ws31_81 ws30_81 hps23.2.2.2.2 b29.1, oq_f320614c ws33_73 ws32_73 ws31_73 ws30_73 ws23_73 ws22_73 g21 b20.1 hps18 vs12⟩ | omega) (Nat.lt_succ_self _) ?_
      intro s36  Is36 Fs36 JFDA_s36 Qs36 hs36
      have b37 : (0 : Int) ≤ iI s36 73 ∧ iI s36 73 ≤ 3 := Is36.1 73
      have b38 : (0 : Int) ≤ iI s36 74 ∧ iI s36 74 ≤ 200 := Is36.1 74
      have b39 : (0 : Int) ≤ iI s36 77 ∧ iI s36 77 ≤ 400 := Is36.1 77
      have b40 : (0 : Int) ≤ iI s36 75 ∧ iI s36 75 ≤ 200 := Is36.1 75
      have b41 : (0 : Int) ≤ iI s36 79 ∧ iI s36 79 ≤ 9 := Is36.1 79
      have b42 : (0 : Int) ≤ iI s36 78 ∧ iI s36 78 ≤ 8 := Is36.1 78
      have b43 : (0 : Int) ≤ iI s36 86 ∧ iI s36 86 ≤ 8 := Is36.1 86
      have b44 : (0 : Int) ≤ iI s36 87 ∧ iI s36 87 ≤ 8 := Is36.1 87
      have b45 : ((-1) : Int) ≤ iI s36 88 ∧ iI s36 88 ≤ 200 := Is36.1 88
      have b46 : (0 : Int) ≤ iI s36 81 ∧ iI s36 81 ≤ 1 := Is36.1 81
      have b47 : (0 : Int) ≤ iI s36 83 ∧ iI s36 83 ≤ 8 := Is36.1 83
      refine z_aload_n X (x := A 179) (show cdA 214 90 = some (.aload_n 0, 1, 0, 0, 0) from rfl) (List.Mem.head _) ?_
      refine z_aload_n X (x := A 179) (show cdA 214 91 = some (.aload_n 0, 1, 0, 0, 0) from rfl) (List.Mem.head _) ?_
      refine z_getI X 179 (show cdA 214 92 = some (.getfield 194, 3, 12, 7, 0) from rfl) (by decide) rfl rfl ?_
      have b48 : ((-1) : Int) ≤ iI s36 80 ∧ iI s36 80 ≤ 400 := Is36.1 80
      refine s_putI X 179 (show cdA 214 95 = some (.putfield 9, 3, 12, 3, 0) from rfl) (by decide) rfl rfl (by decide) rfl rfl rfl ?_
      obtain ⟨s49, hs49⟩ : ∃ x0, x0 = uI s36 76 (Int32.ofInt (iI s36 80)) := ⟨_, rfl⟩
      rw [← hs49]
      have Is49 : Bd s49 := by rw [hs49]; exact bd_I Is36 (show ((-1) : Int) ≤ (iI s36 80) ∧ (iI s36 80) ≤ 400 by first | exact ⟨b48.1, b48.2⟩ | omega) (rng_to _)
      have Fs49 := fm_I (x := Int32.ofInt (iI s36 80)) Fs36 (show 76 ∈ _ by decide)
      rw [← hs49] at Fs49
      have vs49 : iI s49 76 = (iI s36 80) := by rw [hs49]; exact iI_u (rng_to _)
      have ws49_73 : iI s49 73 = iI s36 73 := by rw [hs49]; rfl
      have ws49_74 : iI s49 74 = iI s36 74 := by rw [hs49]; rfl
      have ws49_77 : iI s49 77 = iI s36 77 := by rw [hs49]; rfl
      have ws49_75 : iI s49 75 = iI s36 75 := by rw [hs49]; rfl
      have ws49_79 : iI s49 79 = iI s36 79 := by rw [hs49]; rfl
      have ws49_78 : iI s49 78 = iI s36 78 := by rw [hs49]; rfl
      have ws49_86 : iI s49 86 = iI s36 86 := by rw [hs49]; rfl
      have ws49_87 : iI s49 87 = iI s36 87 := by rw [hs49]; rfl
      have ws49_88 : iI s49 88 = iI s36 88 := by rw [hs49]; rfl
      have ws49_81 : iI s49 81 = iI s36 81 := by rw [hs49]; rfl
      have ws49_83 : iI s49 83 = iI s36 83 := by rw [hs49]; rfl
      have fs49 : Fm [76] [] s36 s49 := by rw [hs49]; exact fm_I (fm_rf _ _ _) (show 76 ∈ _ by decide)
      have JFDA_s49 : FDA B s49 := FDA_fm fs49 (by decide) JFDA_s36
      refine z_aload_n X (x := A 179) (show cdA 214 98 = some (.aload_n 0, 1, 0, 0, 0) from rfl) (List.Mem.head _) ?_
      refine z_getI X 179 (show cdA 214 99 = some (.getfield 191, 3, 12, 6, 0) from rfl) (by decide) rfl rfl ?_
      have b50 : (0 : Int) ≤ iI s49 79 ∧ iI s49 79 ≤ 9 := Is49.1 79
      refine z_if_eq X (t := 113) (show cdA 214 102 = some (.ifCond .eq 11, 3, 0, 0, 0) from rfl) (by decide) (rng_to _) (fun g51 => ?_) (fun g51 => ?_)
      ·
        refine z_const X (show cdA 214 113 = some (.iconst 0, 1, 0, 0, 0) from rfl) ?_
        refine z_store_n X (lv' := [(2, .int (Int32.ofInt 0)), (0, .ref (A 179)), (1, .int (Int32.ofInt x))]) (show cdA 214 114 = some (.istore_n 2, 1, 0, 0, 0) from rfl) (by decide) (fun _ h => h) ?_
        refine WS_lv (lv := [(0, .ref (A 179)), (1, .int (Int32.ofInt x)), (2, .int (Int32.ofInt 0))]) (List.forall_mem_cons.mpr ⟨(List.Mem.tail _ (List.Mem.head _)), (List.forall_mem_cons.mpr ⟨(List.Mem.tail _ (List.Mem.tail _ (List.Mem.head _))), (List.forall_mem_cons.mpr ⟨(List.Mem.head _), (fun q h => absurd h List.not_mem_nil)⟩)⟩)⟩) ?_
        refine L115 ((200 - 0 : Int).toNat + 1) s49 x 0 Is49 Fs49 JFDA_s49 (chm_end Qs36.1 (by omega) (fun h => by omega) (Or.inl ⟨by omega, by omega⟩)) (by first | exact ⟨by decide, And.intro (hs36.2.1.1) (hs36.2.1.2.1), oq_333640b7 ws49_74 hs36.2.2.1 b38.1, by decide, by decide, oq_e7b9ecab ws49_86 ws49_87 hs36.2.2.2.2.2.2.2.1, oq_b1fe1193 ws49_75 b40.2, oq_333640b7 ws49_73 hs36.2.2.2.2.2.2.2.2.2.1 b37.1⟩ | omega) (Nat.lt_succ_self _) ?_
        intro s52 x53 Is52 Fs52 JFDA_s52 Qs52 hs52
        have b54 : (0 : Int) ≤ iI s52 73 ∧ iI s52 73 ≤ 3 := Is52.1 73
        have b55 : (0 : Int) ≤ iI s52 74 ∧ iI s52 74 ≤ 200 := Is52.1 74
        have b56 : (0 : Int) ≤ iI s52 77 ∧ iI s52 77 ≤ 400 := Is52.1 77
        have b57 : (0 : Int) ≤ iI s52 75 ∧ iI s52 75 ≤ 200 := Is52.1 75
        have b58 : (0 : Int) ≤ iI s52 79 ∧ iI s52 79 ≤ 9 := Is52.1 79
        have b59 : (0 : Int) ≤ iI s52 78 ∧ iI s52 78 ≤ 8 := Is52.1 78
        have b60 : (0 : Int) ≤ iI s52 86 ∧ iI s52 86 ≤ 8 := Is52.1 86
        have b61 : (0 : Int) ≤ iI s52 87 ∧ iI s52 87 ≤ 8 := Is52.1 87
        have b62 : ((-1) : Int) ≤ iI s52 88 ∧ iI s52 88 ≤ 200 := Is52.1 88
        have b63 : (0 : Int) ≤ iI s52 81 ∧ iI s52 81 ≤ 1 := Is52.1 81
        have b64 : (0 : Int) ≤ iI s52 83 ∧ iI s52 83 ≤ 8 := Is52.1 83
        refine z_aload_n X (x := A 179) (show cdA 214 138 = some (.aload_n 0, 1, 0, 0, 0) from rfl) (List.Mem.head _) ?_
        refine z_load_n X (x := x) (show cdA 214 139 = some (.iload_n 1, 1, 0, 0, 0) from rfl) (List.Mem.tail _ (List.Mem.head _)) ?_
        refine s_putI X 179 (show cdA 214 140 = some (.putfield 294, 3, 12, 11, 0) from rfl) (by decide) rfl rfl (by decide) rfl rfl rfl ?_
        obtain ⟨s65, hs65⟩ : ∃ x0, x0 = uI s52 82 (Int32.ofInt x) := ⟨_, rfl⟩
        rw [← hs65]
        have Is65 : Bd s65 := by rw [hs65]; exact bd_I Is52 (show (0 : Int) ≤ x ∧ x ≤ 200 by first | exact ⟨hs52.2.1.1, hs36.2.1.2.2⟩ | omega) ⟨by first | exact p0.1 | omega, by first | exact p0.2 | omega⟩
        have Fs65 := fm_I (x := Int32.ofInt x) Fs52 (show 82 ∈ _ by decide)
        rw [← hs65] at Fs65
        have vs65 : iI s65 82 = x := by rw [hs65]; exact iI_u ⟨by first | exact p0.1 | omega, by first | exact p0.2 | omega⟩
        have ws65_73 : iI s65 73 = iI s52 73 := by rw [hs65]; rfl
        have ws65_74 : iI s65 74 = iI s52 74 := by rw [hs65]; rfl
        have ws65_77 : iI s65 77 = iI s52 77 := by rw [hs65]; rfl
        have ws65_75 : iI s65 75 = iI s52 75 := by rw [hs65]; rfl
        have ws65_79 : iI s65 79 = iI s52 79 := by rw [hs65]; rfl
        have ws65_78 : iI s65 78 = iI s52 78 := by rw [hs65]; rfl
        have ws65_86 : iI s65 86 = iI s52 86 := by rw [hs65]; rfl
        have ws65_87 : iI s65 87 = iI s52 87 := by rw [hs65]; rfl
        have ws65_88 : iI s65 88 = iI s52 88 := by rw [hs65]; rfl
        have ws65_81 : iI s65 81 = iI s52 81 := by rw [hs65]; rfl
        have ws65_83 : iI s65 83 = iI s52 83 := by rw [hs65]; rfl
        have fs65 : Fm [82] [] s52 s65 := by rw [hs65]; exact fm_I (fm_rf _ _ _) (show 82 ∈ _ by decide)
        have JFDA_s65 : FDA B s65 := FDA_fm fs65 (by decide) JFDA_s52
        refine z_aload_n X (x := A 179) (show cdA 214 143 = some (.aload_n 0, 1, 0, 0, 0) from rfl) (List.Mem.head _) ?_
        refine z_aload_n X (x := A 179) (show cdA 214 144 = some (.aload_n 0, 1, 0, 0, 0) from rfl) (List.Mem.head _) ?_
        refine z_getI X 179 (show cdA 214 145 = some (.getfield 282, 3, 12, 16, 0) from rfl) (by decide) rfl rfl ?_
        have b66 : (0 : Int) ≤ iI s65 86 ∧ iI s65 86 ≤ 8 := Is65.1 86
        refine s_putI X 179 (show cdA 214 148 = some (.putfield 297, 3, 12, 12, 0) from rfl) (by decide) rfl rfl (by decide) rfl rfl rfl ?_
        obtain ⟨s67, hs67⟩ : ∃ x0, x0 = uI s65 83 (Int32.ofInt (iI s65 86)) := ⟨_, rfl⟩
        rw [← hs67]
        have Is67 : Bd s67 := by rw [hs67]; exact bd_I Is65 (show (0 : Int) ≤ (iI s65 86) ∧ (iI s65 86) ≤ 8 by first | exact ⟨b66.1, b66.2⟩ | omega) (rng_to _)
        have Fs67 := fm_I (x := Int32.ofInt (iI s65 86)) Fs65 (show 83 ∈ _ by decide)
        rw [← hs67] at Fs67
        have vs67 : iI s67 83 = (iI s65 86) := by rw [hs67]; exact iI_u (rng_to _)
        have ws67_73 : iI s67 73 = iI s65 73 := by rw [hs67]; rfl
        have ws67_74 : iI s67 74 = iI s65 74 := by rw [hs67]; rfl
        have ws67_77 : iI s67 77 = iI s65 77 := by rw [hs67]; rfl
        have ws67_75 : iI s67 75 = iI s65 75 := by rw [hs67]; rfl
        have ws67_79 : iI s67 79 = iI s65 79 := by rw [hs67]; rfl
        have ws67_78 : iI s67 78 = iI s65 78 := by rw [hs67]; rfl
        have ws67_86 : iI s67 86 = iI s65 86 := by rw [hs67]; rfl
        have ws67_87 : iI s67 87 = iI s65 87 := by rw [hs67]; rfl
        have ws67_88 : iI s67 88 = iI s65 88 := by rw [hs67]; rfl
        have ws67_81 : iI s67 81 = iI s65 81 := by rw [hs67]; rfl
        have fs67 : Fm [83] [] s65 s67 := by rw [hs67]; exact fm_I (fm_rf _ _ _) (show 83 ∈ _ by decide)
        have JFDA_s67 : FDA B s67 := FDA_fm fs67 (by decide) JFDA_s65
        refine z_aload_n X (x := A 179) (show cdA 214 151 = some (.aload_n 0, 1, 0, 0, 0) from rfl) (List.Mem.head _) ?_
        refine z_aload_n X (x := A 179) (show cdA 214 152 = some (.aload_n 0, 1, 0, 0, 0) from rfl) (List.Mem.head _) ?_
        refine z_getI X 179 (show cdA 214 153 = some (.getfield 288, 3, 12, 17, 0) from rfl) (by decide) rfl rfl ?_
        have b68 : (0 : Int) ≤ iI s67 87 ∧ iI s67 87 ≤ 8 := Is67.1 87
        refine s_putI X 179 (show cdA 214 156 = some (.putfield 300, 3, 12, 13, 0) from rfl) (by decide) rfl rfl (by decide) rfl rfl rfl ?_
        obtain ⟨s69, hs69⟩ : ∃ x0, x0 = uI s67 84 (Int32.ofInt (iI s67 87)) := ⟨_, rfl⟩
        rw [← hs69]
        have Is69 : Bd s69 := by rw [hs69]; exact bd_I Is67 (show (0 : Int) ≤ (iI s67 87) ∧ (iI s67 87) ≤ 8 by first | exact ⟨b68.1, b68.2⟩ | omega) (rng_to _)
        have Fs69 := fm_I (x := Int32.ofInt (iI s67 87)) Fs67 (show 84 ∈ _ by decide)
        rw [← hs69] at Fs69
        have vs69 : iI s69 84 = (iI s67 87) := by rw [hs69]; exact iI_u (rng_to _)
        have ws69_73 : iI s69 73 = iI s67 73 := by rw [hs69]; rfl
        have ws69_74 : iI s69 74 = iI s67 74 := by rw [hs69]; rfl
        have ws69_77 : iI s69 77 = iI s67 77 := by rw [hs69]; rfl
        have ws69_75 : iI s69 75 = iI s67 75 := by rw [hs69]; rfl
        have ws69_79 : iI s69 79 = iI s67 79 := by rw [hs69]; rfl
        have ws69_78 : iI s69 78 = iI s67 78 := by rw [hs69]; rfl
        have ws69_86 : iI s69 86 = iI s67 86 := by rw [hs69]; rfl
        have ws69_87 : iI s69 87 = iI s67 87 := by rw [hs69]; rfl
        have ws69_88 : iI s69 88 = iI s67 88 := by rw [hs69]; rfl
        have ws69_81 : iI s69 81 = iI s67 81 := by rw [hs69]; rfl
        have ws69_83 : iI s69 83 = iI s67 83 := by rw [hs69]; rfl
        have fs69 : Fm [84] [] s67 s69 := by rw [hs69]; exact fm_I (fm_rf _ _ _) (show 84 ∈ _ by decide)
        have JFDA_s69 : FDA B s69 := FDA_fm fs69 (by decide) JFDA_s67
        refine z_aload_n X (x := A 179) (show cdA 214 159 = some (.aload_n 0, 1, 0, 0, 0) from rfl) (List.Mem.head _) ?_
        refine z_aload_n X (x := A 179) (show cdA 214 160 = some (.aload_n 0, 1, 0, 0, 0) from rfl) (List.Mem.head _) ?_
        refine z_getI X 179 (show cdA 214 161 = some (.getfield 285, 3, 12, 18, 0) from rfl) (by decide) rfl rfl ?_
        have b70 : ((-1) : Int) ≤ iI s69 88 ∧ iI s69 88 ≤ 200 := Is69.1 88
        refine s_putI X 179 (show cdA 214 164 = some (.putfield 20, 3, 12, 14, 0) from rfl) (by decide) rfl rfl (by decide) rfl rfl rfl ?_
        obtain ⟨s71, hs71⟩ : ∃ x0, x0 = uI s69 85 (Int32.ofInt (iI s69 88)) := ⟨_, rfl⟩
        rw [← hs71]
        have Is71 : Bd s71 := by rw [hs71]; exact bd_I Is69 (show ((-1) : Int) ≤ (iI s69 88) ∧ (iI s69 88) ≤ 200 by first | exact ⟨b70.1, b70.2⟩ | omega) (rng_to _)
        have Fs71 := fm_I (x := Int32.ofInt (iI s69 88)) Fs69 (show 85 ∈ _ by decide)
        rw [← hs71] at Fs71
        have vs71 : iI s71 85 = (iI s69 88) := by rw [hs71]; exact iI_u (rng_to _)
        have ws71_73 : iI s71 73 = iI s69 73 := by rw [hs71]; rfl
        have ws71_74 : iI s71 74 = iI s69 74 := by rw [hs71]; rfl
        have ws71_77 : iI s71 77 = iI s69 77 := by rw [hs71]; rfl
        have ws71_75 : iI s71 75 = iI s69 75 := by rw [hs71]; rfl
        have ws71_79 : iI s71 79 = iI s69 79 := by rw [hs71]; rfl
        have ws71_78 : iI s71 78 = iI s69 78 := by rw [hs71]; rfl
        have ws71_86 : iI s71 86 = iI s69 86 := by rw [hs71]; rfl
        have ws71_87 : iI s71 87 = iI s69 87 := by rw [hs71]; rfl
        have ws71_88 : iI s71 88 = iI s69 88 := by rw [hs71]; rfl
        have ws71_81 : iI s71 81 = iI s69 81 := by rw [hs71]; rfl
        have ws71_83 : iI s71 83 = iI s69 83 := by rw [hs71]; rfl
        have fs71 : Fm [85] [] s69 s71 := by rw [hs71]; exact fm_I (fm_rf _ _ _) (show 85 ∈ _ by decide)
        have JFDA_s71 : FDA B s71 := FDA_fm fs71 (by decide) JFDA_s69
        refine z_const X (show cdA 214 167 = some (.iconst 0, 1, 0, 0, 0) from rfl) ?_
        refine z_store_n X (lv' := [(2, .int (Int32.ofInt 0)), (0, .ref (A 179)), (1, .int (Int32.ofInt x))]) (show cdA 214 168 = some (.istore_n 2, 1, 0, 0, 0) from rfl) (by decide) (fun _ h => h) ?_
        refine WS_lv (lv := [(0, .ref (A 179)), (1, .int (Int32.ofInt x)), (2, .int (Int32.ofInt 0))]) (List.forall_mem_cons.mpr ⟨(List.Mem.tail _ (List.Mem.head _)), (List.forall_mem_cons.mpr ⟨(List.Mem.tail _ (List.Mem.tail _ (List.Mem.head _))), (List.forall_mem_cons.mpr ⟨(List.Mem.head _), (fun q h => absurd h List.not_mem_nil)⟩)⟩)⟩) ?_
        refine L169 ((8 - 0 : Int).toNat + 1) s71 x 0 Is71 Fs71 JFDA_s71 (by rw [show iI s71 83 = iI s52 86 by omega]; exact Qs52) (by first | exact ⟨by decide, And.intro (hs52.2.1.1) (hs52.2.1.2), oq_d0299403 ws71_74 ws69_74 ws67_74 ws65_74 hs52.2.2.1 b55.1, by decide, by decide, oq_d0299403 ws71_73 ws69_73 ws67_73 ws65_73 hs52.2.2.2.2.2.2.2 b54.1⟩ | omega) (Nat.lt_succ_self _) ?_
        intro s72 x73 Is72 Fs72 JFDA_s72 Qs72 hs72
        have b74 : (0 : Int) ≤ iI s72 73 ∧ iI s72 73 ≤ 3 := Is72.1 73
        have b75 : (0 : Int) ≤ iI s72 74 ∧ iI s72 74 ≤ 200 := Is72.1 74
        have b76 : (0 : Int) ≤ iI s72 77 ∧ iI s72 77 ≤ 400 := Is72.1 77
        have b77 : (0 : Int) ≤ iI s72 75 ∧ iI s72 75 ≤ 200 := Is72.1 75
        have b78 : (0 : Int) ≤ iI s72 79 ∧ iI s72 79 ≤ 9 := Is72.1 79
        have b79 : (0 : Int) ≤ iI s72 78 ∧ iI s72 78 ≤ 8 := Is72.1 78
        have b80 : (0 : Int) ≤ iI s72 86 ∧ iI s72 86 ≤ 8 := Is72.1 86
        have b81 : (0 : Int) ≤ iI s72 87 ∧ iI s72 87 ≤ 8 := Is72.1 87
        have b82 : ((-1) : Int) ≤ iI s72 88 ∧ iI s72 88 ≤ 200 := Is72.1 88
        have b83 : (0 : Int) ≤ iI s72 81 ∧ iI s72 81 ≤ 1 := Is72.1 81
        have b84 : (0 : Int) ≤ iI s72 83 ∧ iI s72 83 ≤ 8 := Is72.1 83
        refine z_aload_n X (x := A 179) (show cdA 214 195 = some (.aload_n 0, 1, 0, 0, 0) from rfl) (List.Mem.head _) ?_
        refine z_getI X 179 (show cdA 214 196 = some (.getfield 297, 3, 12, 12, 0) from rfl) (by decide) rfl rfl ?_
        have b85 : (0 : Int) ≤ iI s72 83 ∧ iI s72 83 ≤ 8 := Is72.1 83
        exact w_iret X.1 q hRt rfl (ax_d X (show cdA 214 199 = some (.ireturn, 1, 0, 0, 0) from rfl)) (Nat.zero_le _) (Nat.zero_le _) ⟨_, rfl, Is72, Fs72, JFDA_s72, (iI s72 83), rfl, (rng_to _), Or.inl ⟨by first | exact hs72.2.1.1 | omega, by first | exact hs72.2.1.2 | omega, by first | exact hs72.2.2.1 | omega, by first | exact hs72.2.2.2.2.2 | omega, by have h := Qs72; rw [show iI s72 83 = (iI s72 83) by omega] at h; exact h⟩⟩
      ·
        refine z_aload_n X (x := A 179) (show cdA 214 105 = some (.aload_n 0, 1, 0, 0, 0) from rfl) (List.Mem.head _) ?_
        refine z_getI X 179 (show cdA 214 106 = some (.getfield 191, 3, 12, 6, 0) from rfl) (by decide) rfl rfl ?_
        have b86 : (0 : Int) ≤ iI s49 79 ∧ iI s49 79 ≤ 9 := Is49.1 79
        refine z_bipush X (show cdA 214 109 = some (.bipush 10, 2, 0, 0, 10) from rfl) ?_
        refine z_sub X (show cdA 214 111 = some (.isub, 1, 0, 0, 0) from rfl) ?_
        exact w_iret X.1 q hRt rfl (ax_d X (show cdA 214 112 = some (.ireturn, 1, 0, 0, 0) from rfl)) (Nat.zero_le _) (Nat.zero_le _) ⟨_, rfl, Is49, Fs49, JFDA_s49, ((iI s49 79) - 10), rfl, ⟨by first | exact oq_d3c9ade5 b86.1 | omega, by first | exact oq_71609f9f b86.2 | omega⟩, Or.inl ⟨by first | exact hs36.2.1.1 | omega, by first | exact hs36.2.1.2.1 | omega, by first | exact oq_333640b7 ws49_74 hs36.2.2.1 b38.1 | omega, by first | exact oq_333640b7 ws49_73 hs36.2.2.2.2.2.2.2.2.2.1 b37.1 | omega, chm_end Qs36.1 (by omega) (fun h => by omega) (Or.inr ⟨by omega, by omega⟩)⟩⟩
    ·
      refine z_const X (show cdA 214 30 = some (.iconst 0, 1, 0, 0, 0) from rfl) ?_
      exact w_iret X.1 q hRt rfl (ax_d X (show cdA 214 31 = some (.ireturn, 1, 0, 0, 0) from rfl)) (Nat.zero_le _) (Nat.zero_le _) ⟨_, rfl, Is18, Gs18, JFDA_s18, 0, rfl, (by decide), Or.inr ⟨by first | exact oq_9e8cb6b2 g21 hps18 he17 hps14 ws12_74 vs12 | omega, by first | exact oq_1aa5be9e ws18_74 ws12_74 | omega, by first | exact oq_58a3c280 g21 hps18 vs12 | omega⟩⟩
  refine z_if_ne X (t := 22) (show cdA 214 15 = some (.ifCond .ne 7, 3, 1, 0, 0) from rfl) (by decide) hrs14 (fun g87 => ?_) (fun g87 => ?_)
  ·
    refine z_const X (show cdA 214 22 = some (.iconst 0, 1, 0, 0, 0) from rfl) ?_
    exact N16 _ (Or.inl ⟨g87, rfl⟩)
  ·
    refine z_const X (show cdA 214 18 = some (.iconst 1, 1, 0, 0, 0) from rfl) ?_
    refine z_goto X (t := 23) (show cdA 214 19 = some (.goto 4, 3, 0, 0, 0) from rfl) (by decide) ?_
    exact N16 _ (Or.inr (⟨g87, rfl⟩))
set_option maxRecDepth 4000 in
theorem lw_rules3 (G : GX l s0 D tys a0 dT) {B : Nat → Int} (SF : SF0 s0) (GT : TXw0 s0) (I : Bd s) (jBYA : BYA B s) {w : Int} (p0 : rng w) (p1 : 0 ≤ iI s 12 ∧ iI s 12 ≤ 8) : CTL l s0 D A dT 315 (rmN 315) [.ref (A 0), .int (Int32.ofInt w), .ref (A 517)] s (fun o t => Bd t ∧ Fm [2, 4, 6, 5, 7, 8, 19, 16, 17, 18, 12, 13, 14, 15, 1, 3, 0] [16, 17, 18, 19, 1460] s t ∧ ∃ e, o = .inl (some (.int (Int32.ofInt e))) ∧ rng e ∧ (((e = 0 ∧ iI t 0 = 0 ∧ 0 ≤ w ∧ w ≤ iI s 0 ∧ RUA B w (iO t)) ∨ (e = 1 ∧ iI t 0 = iI s 0 ∧ (w < 0 ∨ iI s 0 < w))) ∧ iI t 12 ≤ 8)) := by
  refine ctL_of G (by decide) (Nat.le_of_ble_eq_true rfl) (by decide) (show cdA 315 0 = some (.aload_n 2, 1, 0, 0, 0) from rfl) (fun k X E ET hRt hEx q => ?_)
  show WS k 0 [(0, .ref (A 0)), (1, .int (Int32.ofInt w)), (2, .ref (A 517))] [] _ 0 0
  have F : Fm [2, 4, 6, 5, 7, 8, 19, 16, 17, 18, 12, 13, 14, 15, 1, 3, 0] [16, 17, 18, 19, 1460] s s := fm_rf _ _ s
  have hA := swA_rf A
  have b1 : (0 : Int) ≤ iI s 0 ∧ iI s 0 ≤ 200 := I.1 0
  have b2 : (0 : Int) ≤ iI s 12 ∧ iI s 12 ≤ 9 := I.1 12
  refine z_aload_n X (x := A 517) (show cdA 315 0 = some (.aload_n 2, 1, 0, 0, 0) from rfl) (List.Mem.tail _ (List.Mem.tail _ (List.Mem.head _))) ?_
  refine z_const X (show cdA 315 1 = some (.iconst 0, 1, 0, 0, 0) from rfl) ?_
  refine z_aload_n X (x := A 0) (show cdA 315 2 = some (.aload_n 0, 1, 0, 0, 0) from rfl) (List.Mem.head _) ?_
  refine z_load_n X (x := w) (show cdA 315 3 = some (.iload_n 1, 1, 0, 0, 0) from rfl) (List.Mem.tail _ (List.Mem.head _)) ?_
  refine z_callVX X 0 (rm := rmN 137) (As := [.int (Int32.ofInt w)]) (st := [.int (Int32.ofInt 0), .ref (A 517)]) (show cdA 315 4 = some (.invokevirtual 15, 3, 137, 0, 0) from rfl) rfl (by decide) rfl (by rw [E.1, E.2.1, E.2.2.1]; exact cs_rules3 G SF GT I jBYA (by omega) (by omega)) ⟨by rw [E.2.2.2]; exact (show (rmN 137).frames + 1 ≤ (rmN 315).frames by decide), by rw [E.2.2.2]; exact (show 8 + (mNL (miB 137) + 11) + (rmN 137).locals ≤ (rmN 315).locals by decide), by rw [E.2.2.2]; exact (show 0 + (rmN 137).cells ≤ (rmN 315).cells by decide), by rw [E.2.2.2]; exact (show 0 + (rmN 137).slots ≤ (rmN 315).slots by decide)⟩ (Nat.le_of_ble_eq_true rfl) (fun vv A s3 hA2 hq => ?_) (fun ee A s3 hA2 hq => ?_)
  rotate_left
  · obtain ⟨Is3, Fs3, (⟨e4, hv, hrs3, hps3⟩ | ⟨xx, hv, hps3⟩)⟩ := hq
    · cases hv
    · cases hv
      rcases (show xx = 0 by omega) with gx
      ·
        subst gx
        replace hA := swA_ts hA hA2
        rw [← hA2 0 (by decide)]
        rw [← hA2 517 (by decide)]
        have Gs3 := fm_ts F Fs3 (by decide) (by decide)
        have b5 : (0 : Int) ≤ iI s3 0 ∧ iI s3 0 ≤ 200 := Is3.1 0
        have b6 : (0 : Int) ≤ iI s3 12 ∧ iI s3 12 ≤ 9 := Is3.1 12
        refine (hEx 4 0).2 12 rfl _ _ _ _ _ (fun q1 => ?_)
        show WS k 12 [(0, .ref (A 0)), (1, .int (Int32.ofInt w)), (2, .ref (A 517))] [.ref q1] (Wd A dT s3) 1 6
        refine z_astore_n X (lv' := [(3, .ref q1), (0, .ref (A 0)), (1, .int (Int32.ofInt w)), (2, .ref (A 517))]) (show cdA 315 12 = some (.astore_n 3, 1, 0, 0, 0) from rfl) (by decide) (fun _ h => h) ?_
        refine z_const X (show cdA 315 13 = some (.iconst 1, 1, 0, 0, 0) from rfl) ?_
        exact w_iret X.1 q hRt rfl (ax_d X (show cdA 315 14 = some (.ireturn, 1, 0, 0, 0) from rfl)) (show 1 ≤ 1 by omega) (show 6 ≤ 6 by omega) ⟨A, _, hA, rfl, Is3, Gs3, 1, rfl, (by decide), ⟨Or.inr ⟨by decide, by omega, by omega⟩, by omega⟩⟩
  obtain ⟨Is3, Fs3, (⟨e4, hv, hrs3, hps3⟩ | ⟨xx, hv, hps3⟩)⟩ := hq
  rotate_left
  · cases hv
  cases hv
  replace hA := swA_ts hA hA2
  rw [← hA2 0 (by decide)]
  rw [← hA2 517 (by decide)]
  have Gs3 := fm_ts F Fs3 (by decide) (by decide)
  have b7 : (0 : Int) ≤ iI s3 0 ∧ iI s3 0 ≤ 200 := Is3.1 0
  have b8 : (0 : Int) ≤ iI s3 12 ∧ iI s3 12 ≤ 9 := Is3.1 12
  show WS k 7 [(0, .ref (A 0)), (1, .int (Int32.ofInt w)), (2, .ref (A 517))] [.int (Int32.ofInt e4), .int (Int32.ofInt 0), .ref (A 517)] (Wd A dT s3) 1 6
  refine w_i2l X.1 (ax_d X (show cdA 315 7 = some (.i2l, 1, 0, 0, 0) from rfl)) ?_
  refine z_last X 517 (show cdA 315 8 = some (.lastore, 1, 0, 0, 0) from rfl) (by decide) rfl (by omega) (show 0 < 1 by omega) (by decide) ?_
  obtain ⟨s9, hs9⟩ : ∃ x0, x0 = uD s3 460 (0 : Int).toNat (Int32.ofInt e4).toInt64 := ⟨_, rfl⟩
  rw [← hs9]
  have Is9 : Bd s9 := by rw [hs9]; exact bd_D Is3
  have Fs9 : Fm [2, 4, 6, 5, 7, 8, 19, 16, 17, 18, 12, 13, 14, 15, 1, 3, 0] [16, 17, 18, 19, 1460] s s9 := by rw [hs9]; exact fm_D Gs3 (show 460 + 1000 ∈ _ by decide)
  have ws9_0 : iI s9 0 = iI s3 0 := by rw [hs9]; rfl
  have ws9_12 : iI s9 12 = iI s3 12 := by rw [hs9]; rfl
  have oos9 : iO s9 = e4 := by rw [hs9]; exact iO_u (by omega)
  refine z_goto X (t := 15) (show cdA 315 9 = some (.goto 6, 3, 0, 0, 0) from rfl) (by decide) ?_
  refine z_const X (show cdA 315 15 = some (.iconst 0, 1, 0, 0, 0) from rfl) ?_
  exact w_iret X.1 q hRt rfl (ax_d X (show cdA 315 16 = some (.ireturn, 1, 0, 0, 0) from rfl)) (show 1 ≤ 1 by omega) (show 6 ≤ 6 by omega) ⟨A, _, hA, rfl, Is9, Fs9, 0, rfl, (by decide), ⟨Or.inl ⟨by decide, by omega, by omega, by omega, by rw [show iO s9 = e4 by omega]; exact hps3.2.2.2.2.2⟩, by omega⟩⟩
end M87k
