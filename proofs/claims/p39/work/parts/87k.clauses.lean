theorem oq_250cf5e6 {a0 a1 a2 a3 : Int} (h0 : a0 = a1) (h1 : a1 = a2) (h2 : a2 = a3) (h3 : a3 = 0) (h4 : 0 ≤ a3) : (a0 + ((7 : Nat) : Int)) = 7 := by omega
theorem oq_9b88a94f {a0 a1 a2 a3 a4 : Int} (h0 : a0 = a1) (h1 : a1 = a2) (h2 : a2 = a3) (h3 : a3 = 0) : (a0 = 7 → a4 ≠ 0) := by omega
theorem oq_ac0a0b68 : (12 + (3 * (7) + 2)) + 1 ≤ 60 := by omega
theorem oq_3899f1d8 : 8 + (4 + 11) + (500 + 45 * (3 * (7) + 2)) ≤ 2637 := by omega
theorem oq_4c505d4e {a0 a1 a2 a3 a4 a5 : Int} (h0 : a0 = a1) (h1 : 0 ≤ a1) (h2 : a1 = a2) (h3 : a2 = a3) (h4 : a3 = a4) (h5 : a4 = a5) (h6 : a5 = 0) : a0 = 0 := by omega
theorem oq_da110da9 {a0 a1 a2 a3 a4 a5 : Int} (h0 : a0 = a1) (h1 : a2 ≤ a3) (h2 : a4 ≤ a1) (h3 : a4 = a5) (h4 : a3 ≤ a5) : a2 ≤ a0 := by omega
theorem oq_073a94d0 {a0 a1 a2 a3 a4 a5 a6 a7 a8 a9 a10 a11 : Int} (h0 : a0 = a1) (h1 : a2 = (a3 + 1)) (h2 : a1 = a4) (h3 : a3 = a5) (h4 : a4 = a6) (h5 : a5 = a7) (h6 : a6 = a8) (h7 : a7 = a9) (h8 : a8 = a10) (h9 : a9 = a11) (h10 : a10 ≤ a11) : a0 ≤ a2 := by omega
theorem oq_314a3869 {a0 a1 a2 a3 : Int} (h0 : a0 = a1) (h1 : a1 ≠ 0) (h2 : 0 ≤ a1) : (a0 = 0 → a2 = (a3 + 1)) := by omega
theorem oq_33e15320 {a0 a1 a2 a3 a4 a5 : Int} (h0 : a0 = 0) (h1 : (a0 = 0 → a1 ≤ a2)) (h2 : a2 = a3) (h3 : a3 = a4) (h4 : a4 = a5) (h5 : a5 ≤ 200) : a1 ≤ 380 := by omega
theorem oq_9f8cc8f6 {a0 a1 a2 a3 a4 a5 a6 : Int} (h0 : a0 = a1) (h1 : a1 = a2) (h2 : 0 ≤ a2) (h3 : a2 = a3) (h4 : a3 = a4) (h5 : a4 = a5) (h6 : a5 = a6) (h7 : a6 = 0) : a0 = 0 := by omega
theorem oq_cf7a6331 {a0 a1 a2 a3 a4 a5 a6 : Int} (h0 : a0 = a1) (h1 : a2 ≤ a1) (h2 : a3 ≤ a2) (h3 : a3 = a4) (h4 : a5 ≤ a4) (h5 : a6 ≤ a5) : a6 ≤ a0 := by omega
theorem oq_7abd3e11 {a0 a1 a2 a3 a4 a5 a6 a7 a8 a9 a10 a11 a12 a13 : Int} (h0 : a0 = a1) (h1 : a2 = (a3 + 1)) (h2 : a1 = a4) (h3 : a3 = a5) (h4 : a4 = a6) (h5 : a5 = a7) (h6 : a6 = a8) (h7 : a7 = a9) (h8 : a8 = a10) (h9 : a9 = a11) (h10 : a10 = a12) (h11 : a11 = a13) (h12 : a12 ≤ a13) : a0 ≤ a2 := by omega
theorem oq_0a3a365b {a0 a1 a2 a3 a4 a5 a6 a7 : Int} (h0 : a0 = (a1 + 1)) (h1 : a1 = a2) (h2 : a2 = a3) (h3 : a3 = a4) (h4 : a4 = a5) (h5 : a5 = a6) : (a7 = 0 → a0 = (a6 + 1)) := by omega
theorem oq_ea1d993c {a0 a1 a2 a3 a4 : Int} (h0 : a0 = a1) (h1 : a2 = a3) (h2 : a3 = a4) (h3 : a4 ≤ 8) (h4 : a1 = 8) : a2 ≤ a0 := by omega
theorem oq_2dbfa935 {a0 a1 a2 : Int} (h0 : a0 ≠ 0) (h1 : 0 ≤ a0) : (a0 = 0 → a1 = (a2 + 1)) := by omega
theorem oq_7adb7498 {a0 a1 a2 a3 a4 : Int} (h0 : a0 = a1) (h1 : a2 ≠ 8) (h2 : a2 ≤ 8) (h3 : a1 = a3) (h4 : a2 = a4) (h5 : a3 ≤ a4) : a0 < 8 := by omega
theorem oq_404f837d {a0 a1 a2 a3 a4 a5 : Int} (h0 : a0 = a1) (h1 : a1 = a2) (h2 : a3 ≠ 8) (h3 : a3 ≤ 8) (h4 : a2 = a4) (h5 : a3 = a5) (h6 : a4 ≤ a5) : (a0 + 1) ≤ 8 := by omega
theorem oq_44f88855 {a0 a1 a2 a3 a4 : Int} (h0 : a0 = a1) (h1 : a1 = a2) (h2 : a2 = a3) (h3 : a3 = a4) (h4 : a4 = 0) (h5 : 0 ≤ a4) : (a0 + ((7 : Nat) : Int)) = 7 := by omega
theorem oq_d6c38034 {a0 a1 a2 a3 a4 a5 : Int} (h0 : a0 = a1) (h1 : a1 = a2) (h2 : a2 = a3) (h3 : a3 = a4) (h4 : a4 = 0) : (a0 = 7 → a5 ≠ 0) := by omega
theorem oq_747fe883 : (12 + (24 + 3 * (7) + 2)) + 1 ≤ 60 := by omega
theorem oq_0300f435 : 8 + (3 + 11) + (500 + 45 * (24 + 3 * (7) + 2)) ≤ 2637 := by omega
theorem oq_e6068ff7 {a0 a1 a2 a3 a4 a5 a6 : Int} (h0 : a0 = a1) (h1 : 0 ≤ a1) (h2 : a1 = a2) (h3 : a2 = a3) (h4 : a3 = a4) (h5 : a4 = a5) (h6 : a5 = a6) (h7 : a6 = 0) : a0 = 0 := by omega
theorem oq_1e809b18 {a0 a1 a2 a3 a4 a5 a6 : Int} (h0 : a0 = a1) (h1 : a2 ≤ a1) (h2 : a2 = a3) (h3 : a3 = a4) (h4 : a5 ≤ a4) (h5 : a6 ≤ a5) : a6 ≤ a0 := by omega
theorem oq_b7b8f116 {a0 a1 a2 a3 a4 a5 a6 : Int} (h0 : a0 = a1) (h1 : (a2 = 0 → a3 < a1)) (h2 : (a1 = a3 ∨ a1 ≤ 203)) (h3 : a2 = a4) (h4 : a4 = a5) (h5 : a5 = a6) (h6 : a6 = 0) : a0 ≤ 203 := by omega
theorem oq_ce3e081a {a0 a1 a2 a3 a4 a5 a6 a7 a8 a9 a10 a11 a12 a13 : Int} (h0 : a0 = a1) (h1 : a2 = (a3 + 1)) (h2 : a1 = a4) (h3 : a3 = a5) (h4 : a5 = a6) (h5 : a4 = (a7 + 1)) (h6 : a7 = a8) (h7 : a6 = a9) (h8 : a8 = a10) (h9 : a9 = a11) (h10 : a10 = a12) (h11 : a11 = a13) (h12 : a12 ≤ a13) : a0 ≤ a2 := by omega
theorem oq_bb33e387 {a0 a1 a2 a3 a4 a5 : Int} (h0 : (a0 = 0 → a1 < a2)) (h1 : (a2 = a1 ∨ a2 ≤ 203)) (h2 : a0 = a3) (h3 : a3 = a4) (h4 : a4 = a5) (h5 : a5 = 0) : a2 ≤ 380 := by omega
theorem oq_6da97644 {a0 a1 a2 a3 a4 a5 a6 a7 : Int} (h0 : a0 = a1) (h1 : a1 = a2) (h2 : 0 ≤ a2) (h3 : a2 = a3) (h4 : a3 = a4) (h5 : a4 = a5) (h6 : a5 = a6) (h7 : a6 = a7) (h8 : a7 = 0) : a0 = 0 := by omega
theorem oq_a86b6adc {a0 a1 a2 a3 a4 a5 a6 a7 : Int} (h0 : a0 = a1) (h1 : a2 ≤ a1) (h2 : a3 ≤ a2) (h3 : a3 = a4) (h4 : a4 = a5) (h5 : a6 ≤ a5) (h6 : a7 ≤ a6) : a7 ≤ a0 := by omega
theorem oq_42ada30f {a0 a1 a2 a3 a4 a5 a6 a7 a8 a9 a10 a11 a12 a13 a14 a15 : Int} (h0 : a0 = a1) (h1 : a2 = (a3 + 1)) (h2 : a1 = a4) (h3 : a3 = a5) (h4 : a4 = a6) (h5 : a5 = a7) (h6 : a7 = a8) (h7 : a6 = (a9 + 1)) (h8 : a9 = a10) (h9 : a8 = a11) (h10 : a10 = a12) (h11 : a11 = a13) (h12 : a12 = a14) (h13 : a13 = a15) (h14 : a14 ≤ a15) : a0 ≤ a2 := by omega
theorem oq_28d8858a {a0 a1 a2 a3 a4 a5 a6 a7 a8 : Int} (h0 : a0 = (a1 + 1)) (h1 : a1 = a2) (h2 : a2 = a3) (h3 : a3 = a4) (h4 : a4 = a5) (h5 : a5 = a6) (h6 : a6 = a7) : (a8 = 0 → a0 = (a7 + 1)) := by omega
theorem oq_c0fb8fc4 {a0 a1 a2 a3 a4 a5 a6 : Int} (h0 : a0 = a1) (h1 : a2 ≤ a3) (h2 : a1 = a4) (h3 : a2 = a5) (h4 : a4 ≤ a6) (h5 : a6 ≤ a5) : a0 ≤ a3 := by omega
theorem oq_e2534179 {a0 a1 a2 a3 a4 a5 a6 a7 a8 : Int} (h0 : a0 = a1) (h1 : a2 ≤ a3) (h2 : a1 = a4) (h3 : a2 = a5) (h4 : a4 = a6) (h5 : a5 = a7) (h6 : a6 ≤ a8) (h7 : a8 ≤ a7) : a0 ≤ a3 := by omega
theorem oq_ff203326 {a0 a1 a2 a3 a4 a5 : Int} (h0 : a0 ≠ 0) (h1 : 0 ≤ a1) (h2 : (a0 = 0 ∨ (a0 = 1 ∧ (a1 = 0 ∧ (a2 < a3 ∧ (a3 ≤ a4 ∧ a5 ≤ a3)))))) : a1 = 0 := by omega
theorem oq_fc5e1ae1 {a0 a1 a2 a3 a4 a5 : Int} (h0 : a0 ≠ 0) (h1 : (a0 = 0 ∨ (a0 = 1 ∧ (a1 = 0 ∧ (a2 < a3 ∧ (a3 ≤ a4 ∧ a5 ≤ a3)))))) : a3 ≤ a4 := by omega
theorem oq_43b1a270 {a0 a1 a2 a3 a4 a5 : Int} (h0 : a0 ≠ 0) (h1 : (a0 = 0 ∨ (a0 = 1 ∧ (a1 = 0 ∧ (a2 < a3 ∧ (a3 ≤ a4 ∧ a5 ≤ a3)))))) : a5 ≤ a3 := by omega
theorem oq_1ad913b0 {a0 a1 a2 a3 a4 a5 a6 a7 a8 : Int} (h0 : a0 = a1) (h1 : a2 = a3) (h2 : a1 = a4) (h3 : a3 = a5) (h4 : a4 = a6) (h5 : a5 = a7) (h6 : a7 = a8) (h7 : a6 = 0) (h8 : 0 ≤ a8) : a0 ≤ a2 := by omega
theorem oq_7b48b746 {a0 a1 a2 a3 : Int} (h0 : a0 ≤ a1) (h1 : a0 = a2) : (a3 = 0 → a2 ≤ a1) := by omega
/-! Clauses, and all of them: what a text of rules comes to -/
/-- the clause k at p: its fault f (0: none), its mode md (3 a load, 8 a join), its codes c, where it goes on q -/
def CLR (B : Nat → Int) (N k p f : Int) (md : Nat) (c : List Int) (q : Int) : Prop :=
  (f = 1 ∧ whV B N p ≠ 247162 ∧ whV B N p ≠ 208022) ∨ (((whV B N p = 247162 ∧ md = 3) ∨ (whV B N p = 208022 ∧ md = 8)) ∧ ((8 ≤ k ∧ f = 3) ∨ (k < 8 ∧ ∃ r : Rd, PGR B N md [] (sk B N (wdE B N p)) 0 r ∧ ((r.1 ≠ 0 ∧ f = r.1) ∨ (r.1 = 0 ∧ ¬ chT B N r.2.2 59 ∧ f = 1) ∨ (r.1 = 0 ∧ chT B N r.2.2 59 ∧ f = 0 ∧ c = r.2.1 ∧ q = sk B N (r.2.2 + 1))))))
theorem clr_un {B : Nat → Int} {N k p f f' : Int} {md md' : Nat} {c c' : List Int} {q q' : Int} (h : CLR B N k p f md c q) (h' : CLR B N k p f' md' c' q') : f = f' ∧ (f = 0 → md = md' ∧ c = c' ∧ q = q') := by
  rcases h with ⟨h0, h1, h2⟩ | ⟨h1, h2⟩
  · rcases h' with ⟨k0, k1, k2⟩ | ⟨k1, k2⟩
    · exact ⟨by omega, fun z => by omega⟩
    · exfalso; clear k2; omega
  · rcases h' with ⟨k0, k1, k2⟩ | ⟨k1, k2⟩
    · exfalso; clear h2; omega
    · have em : md = md' := by clear h2 k2; omega
      subst em
      rcases h2 with h2 | ⟨h3, r, r1, r2⟩
      · rcases k2 with k2 | k2
        · exact ⟨by omega, fun z => by omega⟩
        · exfalso; have := k2.1; omega
      · rcases k2 with k2 | ⟨k3, s, s1, s2⟩
        · exfalso; omega
        · have e := pgr_un r1 s1
          subst e
          rcases r2 with ⟨a1, a2⟩ | ⟨a1, a2, a3⟩ | ⟨a1, a2, a3, a4, a5⟩
          · rcases s2 with ⟨b1, b2⟩ | ⟨b1, b2, b3⟩ | ⟨b1, b2, b3, b4, b5⟩
            · exact ⟨by omega, fun z => by omega⟩
            · exact absurd b1 a1
            · exact absurd b1 a1
          · rcases s2 with ⟨b1, b2⟩ | ⟨b1, b2, b3⟩ | ⟨b1, b2, b3, b4, b5⟩
            · exact absurd a1 b1
            · exact ⟨by omega, fun z => by omega⟩
            · exact absurd b2 a2
          · rcases s2 with ⟨b1, b2⟩ | ⟨b1, b2, b3⟩ | ⟨b1, b2, b3, b4, b5⟩
            · exact absurd a1 b1
            · exact absurd a2 b2
            · exact ⟨by omega, fun _ => ⟨rfl, by rw [a4, b4], by rw [a5, b5]⟩⟩
/-- n clauses are read, the text goes on at p -/
def CHN (B : Nat → Int) (N : Int) : Nat → Int → Prop
  | 0, p => p = sk B N 0
  | n + 1, p => ∃ (q : Int) (md : Nat) (c : List Int), CHN B N n q ∧ q < N ∧ CLR B N n q 0 md c p
theorem chn_un {B : Nat → Int} {N : Int} : ∀ (n : Nat) {p p' : Int}, CHN B N n p → CHN B N n p' → p = p'
  | 0, p, p', h, h' => by
    replace h : p = sk B N 0 := h
    replace h' : p' = sk B N 0 := h'
    rw [h, h']
  | n + 1, p, p', ⟨q, md, c, h1, h2, h3⟩, ⟨q', md', c', k1, k2, k3⟩ => by
    have e := chn_un n h1 k1
    subst e
    exact ((clr_un h3 k3).2 rfl).2.2
theorem chn_lo {B : Nat → Int} {N : Int} : ∀ (m n : Nat) {p : Int}, CHN B N (n + m) p → ∃ q, CHN B N n q ∧ (0 < m → q < N ∧ ∃ (md : Nat) (c : List Int) (r : Int), CLR B N n q 0 md c r)
  | 0, n, p, h => ⟨p, h, fun z => absurd z (Nat.lt_irrefl _)⟩
  | m + 1, n, p, ⟨q, md, c, h1, h2, h3⟩ => by
    by_cases z : m = 0
    · subst z
      exact ⟨q, h1, fun _ => ⟨h2, md, c, p, h3⟩⟩
    · obtain ⟨q', k1, k2⟩ := chn_lo m n h1
      exact ⟨q', k1, fun _ => k2 (by omega)⟩
/-- the text of rules has n clauses (f 0), or after n of them the fault f -/
def RUL (B : Nat → Int) (N f : Int) (n : Nat) : Prop := ∃ p, CHN B N n p ∧ ((f = 0 ∧ N ≤ p) ∨ (f ≠ 0 ∧ p < N ∧ ∃ (md : Nat) (c : List Int) (q : Int), CLR B N n p f md c q))
theorem rul_le {B : Nat → Int} {N f f' : Int} {n n' : Nat} (h : RUL B N f n) (h' : RUL B N f' n') : n' ≤ n := by
  obtain ⟨p, h1, h2⟩ := h
  obtain ⟨p', k1, k2⟩ := h'
  rcases Nat.lt_or_ge n n' with z | z
  · exfalso
    obtain ⟨m, rfl⟩ : ∃ m, n' = n + (m + 1) := ⟨n' - n - 1, by omega⟩
    obtain ⟨q, q1, q2⟩ := chn_lo (m + 1) n k1
    have e := chn_un n h1 q1
    subst e
    obtain ⟨q3, md, c, r, q4⟩ := q2 (Nat.succ_pos _)
    rcases h2 with h2 | ⟨h2, h3, md', c', r', h4⟩
    · omega
    · exact h2 (clr_un h4 q4).1
  · exact z
theorem rul_un {B : Nat → Int} {N f f' : Int} {n n' : Nat} (h : RUL B N f n) (h' : RUL B N f' n') : f = f' ∧ n = n' := by
  have e : n = n' := Nat.le_antisymm (rul_le h' h) (rul_le h h')
  subst e
  refine ⟨?_, rfl⟩
  obtain ⟨p, h1, h2⟩ := h
  obtain ⟨p', k1, k2⟩ := h'
  have e := chn_un n h1 k1
  subst e
  rcases h2 with h2 | ⟨h2, h3, md, c, q, h4⟩
  · rcases k2 with k2 | k2
    · omega
    · omega
  · rcases k2 with k2 | ⟨k2, k3, md', c', q', k4⟩
    · omega
    · exact (clr_un h4 k4).1
/-- what a call of rules answers: the clauses, or the fault less 10 -/
def RUA (B : Nat → Int) (N e : Int) : Prop := ∃ (f : Int) (n : Nat), RUL B N f n ∧ ((f = 0 ∧ e = (n : Int)) ∨ (f ≠ 0 ∧ e = f - 10))
theorem rua_un {B : Nat → Int} {N e e' : Int} (h : RUA B N e) (h' : RUA B N e') : e = e' := by
  obtain ⟨f, n, h1, h2⟩ := h
  obtain ⟨f', n', k1, k2⟩ := h'
  obtain ⟨e1, e2⟩ := rul_un h1 k1
  subst e1 e2
  omega
/-- a clause of the model's -/
def CLM (B : Nat → Int) (N : Int) (s t : PS) : Prop := ∃ (f : Int) (md : Nat) (c : List Int) (q : Int), CLR B N (iI s 86) (sk B N (iI s 77)) f md c q ∧ ((iI t 79 = 0 ∧ f = 0 ∧ sk B N (iI t 77) = q) ∨ (iI t 79 ≠ 0 ∧ iI t 79 = f))
theorem clm_1 {B : Nat → Int} {N : Int} {s t : PS} (h1 : whV B N (sk B N (iI s 77)) ≠ 247162) (h2 : whV B N (sk B N (iI s 77)) ≠ 208022) (hf : iI t 79 = 1) : CLM B N s t := ⟨1, 0, [], 0, Or.inl ⟨rfl, h1, h2⟩, Or.inr ⟨by omega, hf⟩⟩
theorem clm_3 {B : Nat → Int} {N : Int} {s t : PS} (h1 : whV B N (sk B N (iI s 77)) = 247162 ∨ whV B N (sk B N (iI s 77)) = 208022) (h2 : 8 ≤ iI s 86) (hf : iI t 79 = 3) : CLM B N s t := by
  rcases h1 with h1 | h1
  · exact ⟨3, 3, [], 0, Or.inr ⟨Or.inl ⟨h1, rfl⟩, Or.inl ⟨h2, rfl⟩⟩, Or.inr ⟨by omega, hf⟩⟩
  · exact ⟨3, 8, [], 0, Or.inr ⟨Or.inr ⟨h1, rfl⟩, Or.inl ⟨h2, rfl⟩⟩, Or.inr ⟨by omega, hf⟩⟩
theorem clm_of {B : Nat → Int} {N p : Int} {md : Nat} {s b c u : PS} (hp : p = sk B N (iI s 77)) (hw : (whV B N p = 247162 ∧ md = 3) ∨ (whV B N p = 208022 ∧ md = 8)) (hk : iI s 86 < 8) (hou : OUm B N md (sk B N (wdE B N p)) 0 b) (hs : (iI b 79 ≠ 0 ∧ iI u 79 = iI b 79) ∨ (iI b 79 = 0 ∧ SGN B N 59 b c ∧ iI u 79 = iI c 79 ∧ iI u 77 = iI c 77)) : CLM B N s u := by
  subst hp
  obtain ⟨r, r1, r2⟩ := hou
  rcases r2 with ⟨f0, z, q⟩ | ⟨f0, z⟩
  · rcases hs with hs | ⟨-, hs, hf, ha⟩
    · exact absurd f0 hs.1
    · rcases hs with ⟨c1, c2, c3⟩ | ⟨c1, c2, c3⟩
      · rw [q] at c1 c2
        exact ⟨0, md, r.2.1, sk B N (r.2.2 + 1), Or.inr ⟨hw, Or.inr ⟨hk, r, r1, Or.inr (Or.inr ⟨z, c1, rfl, rfl, rfl⟩)⟩⟩, Or.inl ⟨by omega, rfl, by rw [ha, c2]⟩⟩
      · rw [q] at c1
        exact ⟨1, md, [], 0, Or.inr ⟨hw, Or.inr ⟨hk, r, r1, Or.inr (Or.inl ⟨z, c1, rfl⟩)⟩⟩, Or.inr ⟨by omega, by omega⟩⟩
  · rcases hs with hs | hs
    · exact ⟨r.1, md, [], 0, Or.inr ⟨hw, Or.inr ⟨hk, r, r1, Or.inl ⟨by omega, rfl⟩⟩⟩, Or.inr ⟨by omega, by omega⟩⟩
    · exact absurd hs.1 f0
/-- a clause of the class's -/
def CLC (B : Nat → Int) (N x : Int) (s t : PS) (e : Int) : Prop := ∃ (f : Int) (md : Nat) (c : List Int) (q : Int), CLR B N x (iI s 4) f md c q ∧ ((e = 1 ∧ f = 0 ∧ iI t 4 = q) ∨ (e = 0 ∧ f ≠ 0 ∧ iI t 7 = f))
theorem clc_1 {B : Nat → Int} {N x : Int} {s t : PS} (h1 : whV B N (iI s 4) ≠ 247162) (h2 : whV B N (iI s 4) ≠ 208022) (hf : iI t 7 = 1) : CLC B N x s t 0 := ⟨1, 0, [], 0, Or.inl ⟨rfl, h1, h2⟩, Or.inr ⟨rfl, by decide, hf⟩⟩
theorem clc_3 {B : Nat → Int} {N x : Int} {s t : PS} (h1 : whV B N (iI s 4) = 247162 ∨ whV B N (iI s 4) = 208022) (h2 : 8 ≤ x) (hf : iI t 7 = 3) : CLC B N x s t 0 := by
  rcases h1 with h1 | h1
  · exact ⟨3, 3, [], 0, Or.inr ⟨Or.inl ⟨h1, rfl⟩, Or.inl ⟨h2, rfl⟩⟩, Or.inr ⟨rfl, by decide, hf⟩⟩
  · exact ⟨3, 8, [], 0, Or.inr ⟨Or.inr ⟨h1, rfl⟩, Or.inl ⟨h2, rfl⟩⟩, Or.inr ⟨rfl, by decide, hf⟩⟩
theorem clc_of {B : Nat → Int} {N x e1 e : Int} {md : Nat} {D : List Int} {s b c u : PS} (hw : (whV B N (iI s 4) = 247162 ∧ md = 3) ∨ (whV B N (iI s 4) = 208022 ∧ md = 8)) (hk : x < 8) (hr : RDc B N md (sk B N (wdE B N (iI s 4))) 0 D b e1) (hs : (e1 = 0 ∧ e = 0 ∧ iI u 7 = iI b 7) ∨ (e1 ≠ 0 ∧ PSS B N 59 b c e ∧ iI u 7 = iI c 7 ∧ iI u 4 = iI c 4)) : CLC B N x s u e := by
  obtain ⟨r, r1, r2⟩ := hr
  rcases r2 with ⟨f0, z, q, -⟩ | ⟨f0, z, q⟩
  · rcases hs with hs | ⟨-, hs, hf, ha⟩
    · omega
    · rcases hs with ⟨c0, c1, c2⟩ | ⟨c0, c1, c2⟩
      · rw [q] at c1 c2
        exact ⟨0, md, r.2.1, sk B N (r.2.2 + 1), Or.inr ⟨hw, Or.inr ⟨hk, r, r1, Or.inr (Or.inr ⟨z, c1, rfl, rfl, rfl⟩)⟩⟩, Or.inl ⟨c0, rfl, by rw [ha, c2]⟩⟩
      · rw [q] at c1
        exact ⟨1, md, [], 0, Or.inr ⟨hw, Or.inr ⟨hk, r, r1, Or.inr (Or.inl ⟨z, c1, rfl⟩)⟩⟩, Or.inr ⟨c0, by decide, by rw [hf, c2]⟩⟩
  · rcases hs with ⟨-, hs, hf⟩ | hs
    · exact ⟨r.1, md, [], 0, Or.inr ⟨hw, Or.inr ⟨hk, r, r1, Or.inl ⟨z, rfl⟩⟩⟩, Or.inr ⟨hs, z, by rw [hf, q]⟩⟩
    · exact absurd f0 hs.1
theorem clc_e {B : Nat → Int} {N x e : Int} {s t : PS} (h : CLC B N x s t e) : e = 0 ∨ e = 1 := by
  obtain ⟨f, md, c, q, h1, h2 | h2⟩ := h
  · exact Or.inr h2.1
  · exact Or.inl h2.1
theorem chc_no {B : Nat → Int} {N x e : Int} {t u v : PS} (h : CHN B N x.toNat (iI t 4)) (h0 : 0 ≤ x) (hp : iI t 4 < N) (hc : CLC B N x t u e) (he : e = 0) (hv : iI v 7 = iI u 7) : RUL B N (iI v 7) x.toNat ∧ iI v 7 ≠ 0 := by
  obtain ⟨f, md, c, q, h1, h2 | h2⟩ := hc
  · omega
  · obtain ⟨-, b, d⟩ := h2
    rw [hv, d]
    exact ⟨⟨_, h, Or.inr ⟨b, hp, md, c, q, by rw [show ((x.toNat : Nat) : Int) = x by omega]; exact h1⟩⟩, b⟩
theorem chc_9 {B : Nat → Int} {N x e : Int} {t u : PS} (hx : 8 ≤ x) (hc : CLC B N x t u e) : e = 0 := by
  obtain ⟨f, md, c, q, h1, h2 | h2⟩ := hc
  · exfalso
    obtain ⟨-, b, d⟩ := h2
    subst b
    rcases h1 with h1 | ⟨-, h1 | h1⟩
    · omega
    · omega
    · have := h1.1; omega
  · exact h2.1
section M87k
variable {l : Launch} {s0 : State} {D : va_G} {tys : List (ClassId × FieldType)} {a0 : Array Value} {A : Nat → Nat} {dT : Nat → ClassId} {s : PS}
theorem k_orsr3 (G : GX l s0 D tys a0 dT) {B : Nat → Int} {N : Int} (r : Nat) : (∀ {s : PS}, Bd s → FDB B N s → (iI s 77 ≤ 203) → (iI s 78 + ((r : Nat) : Int) = 7) → (iI s 78 = 7 → iI s 79 ≠ 0) → (iI s 79 = 0 → iI s 77 ≤ 202) → CT l s0 D A dT 210 (rkR (24 + 3 * (r))) [.ref (A 179)] s (fun o t => Bd t ∧ Fm [77, 79, 80, 78] [] s t ∧ FDB B N t ∧ ∃ e, o = .inl (some (.int (Int32.ofInt e))) ∧ rng e ∧ (iI t 78 = iI s 78 ∧ iI s 77 ≤ iI t 77 ∧ (iI t 77 = iI s 77 ∨ iI t 77 ≤ 203) ∧ (iI s 79 ≠ 0 → iI t 79 ≠ 0) ∧ (iI t 79 = 0 → iI t 77 ≤ iI s 75) ∧ (iI s 79 = 0 → iI s 77 < iI t 77) ∧ (e = 0 ∨ e = 1) ∧ PFm B N 5 s t))) ∧ (∀ {s : PS}, Bd s → FDB B N s → (iI s 77 ≤ 203) → (iI s 78 + ((r : Nat) : Int) = 7) → (iI s 78 = 7 → iI s 79 ≠ 0) → (iI s 79 = 0 → iI s 77 ≤ 202) → CT l s0 D A dT 211 (rkR (24 + 3 * (r) + 1)) [.ref (A 179)] s (fun o t => Bd t ∧ Fm [77, 79, 80, 78] [] s t ∧ FDB B N t ∧ ∃ e, o = .inl (some (.int (Int32.ofInt e))) ∧ rng e ∧ (iI t 78 = iI s 78 ∧ iI s 77 ≤ iI t 77 ∧ (iI t 77 = iI s 77 ∨ iI t 77 ≤ 203) ∧ (iI s 79 ≠ 0 → iI t 79 ≠ 0) ∧ (iI t 79 = 0 → iI t 77 ≤ iI s 75) ∧ (iI s 79 = 0 → iI s 77 < iI t 77) ∧ (e = 0 ∨ e = 1) ∧ PFm B N 6 s t))) ∧ (∀ {s : PS}, Bd s → FDB B N s → (iI s 77 ≤ 203) → (iI s 78 + ((r : Nat) : Int) = 7) → (iI s 78 = 7 → iI s 79 ≠ 0) → (iI s 79 = 0 → iI s 77 ≤ 202) → CT l s0 D A dT 212 (rkR (24 + 3 * (r) + 2)) [.ref (A 179)] s (fun o t => Bd t ∧ Fm [77, 79, 80, 78] [] s t ∧ FDB B N t ∧ ∃ e, o = .inl (some (.int (Int32.ofInt e))) ∧ rng e ∧ (iI t 78 = iI s 78 ∧ iI s 77 ≤ iI t 77 ∧ (iI t 77 = iI s 77 ∨ iI t 77 ≤ 203) ∧ (iI s 79 ≠ 0 → iI t 79 ≠ 0) ∧ (iI t 79 = 0 → iI t 77 ≤ iI s 75) ∧ (iI s 79 = 0 → iI s 77 < iI t 77) ∧ (e = 0 ∨ e = 1) ∧ PFm B N 8 s t))) := by
  induction r with
  | zero =>
    have hT : ∀ {s : PS}, Bd s → FDB B N s → (iI s 77 ≤ 203) → (iI s 78 + ((0 : Nat) : Int) = 7) → (iI s 78 = 7 → iI s 79 ≠ 0) → (iI s 79 = 0 → iI s 77 ≤ 202) → CT l s0 D A dT 210 (rkR (24 + 3 * (0))) [.ref (A 179)] s (fun o t => Bd t ∧ Fm [77, 79, 80, 78] [] s t ∧ FDB B N t ∧ ∃ e, o = .inl (some (.int (Int32.ofInt e))) ∧ rng e ∧ (iI t 78 = iI s 78 ∧ iI s 77 ≤ iI t 77 ∧ (iI t 77 = iI s 77 ∨ iI t 77 ≤ 203) ∧ (iI s 79 ≠ 0 → iI t 79 ≠ 0) ∧ (iI t 79 = 0 → iI t 77 ≤ iI s 75) ∧ (iI s 79 = 0 → iI s 77 < iI t 77) ∧ (e = 0 ∨ e = 1) ∧ PFm B N 5 s t)) := fun {_} I j p0 p1 p2 p3 => k_test03 G I j p0 p1 p2 p3
    have hA : ∀ {s : PS}, Bd s → FDB B N s → (iI s 77 ≤ 203) → (iI s 78 + ((0 : Nat) : Int) = 7) → (iI s 78 = 7 → iI s 79 ≠ 0) → (iI s 79 = 0 → iI s 77 ≤ 202) → CT l s0 D A dT 211 (rkR (24 + 3 * (0) + 1)) [.ref (A 179)] s (fun o t => Bd t ∧ Fm [77, 79, 80, 78] [] s t ∧ FDB B N t ∧ ∃ e, o = .inl (some (.int (Int32.ofInt e))) ∧ rng e ∧ (iI t 78 = iI s 78 ∧ iI s 77 ≤ iI t 77 ∧ (iI t 77 = iI s 77 ∨ iI t 77 ≤ 203) ∧ (iI s 79 ≠ 0 → iI t 79 ≠ 0) ∧ (iI t 79 = 0 → iI t 77 ≤ iI s 75) ∧ (iI s 79 = 0 → iI s 77 < iI t 77) ∧ (e = 0 ∨ e = 1) ∧ PFm B N 6 s t)) := fun {_} I j p0 p1 p2 p3 => k_andsS3 (r := 0) G hT I j p0 p1 p2 p3
    exact ⟨hT, hA, fun {_} I j p0 p1 p2 p3 => k_orsS3 (r := 0) G hA I j p0 p1 p2 p3⟩
  | succ r ih =>
    have hT : ∀ {s : PS}, Bd s → FDB B N s → (iI s 77 ≤ 203) → (iI s 78 + ((r + 1 : Nat) : Int) = 7) → (iI s 78 = 7 → iI s 79 ≠ 0) → (iI s 79 = 0 → iI s 77 ≤ 202) → CT l s0 D A dT 210 (rkR (24 + 3 * (r + 1))) [.ref (A 179)] s (fun o t => Bd t ∧ Fm [77, 79, 80, 78] [] s t ∧ FDB B N t ∧ ∃ e, o = .inl (some (.int (Int32.ofInt e))) ∧ rng e ∧ (iI t 78 = iI s 78 ∧ iI s 77 ≤ iI t 77 ∧ (iI t 77 = iI s 77 ∨ iI t 77 ≤ 203) ∧ (iI s 79 ≠ 0 → iI t 79 ≠ 0) ∧ (iI t 79 = 0 → iI t 77 ≤ iI s 75) ∧ (iI s 79 = 0 → iI s 77 < iI t 77) ∧ (e = 0 ∨ e = 1) ∧ PFm B N 5 s t)) := fun {_} I j p0 p1 p2 p3 => k_testS3 G ih.1 ih.2.2 I j p0 p1 p2 p3
    have hA : ∀ {s : PS}, Bd s → FDB B N s → (iI s 77 ≤ 203) → (iI s 78 + ((r + 1 : Nat) : Int) = 7) → (iI s 78 = 7 → iI s 79 ≠ 0) → (iI s 79 = 0 → iI s 77 ≤ 202) → CT l s0 D A dT 211 (rkR (24 + 3 * (r + 1) + 1)) [.ref (A 179)] s (fun o t => Bd t ∧ Fm [77, 79, 80, 78] [] s t ∧ FDB B N t ∧ ∃ e, o = .inl (some (.int (Int32.ofInt e))) ∧ rng e ∧ (iI t 78 = iI s 78 ∧ iI s 77 ≤ iI t 77 ∧ (iI t 77 = iI s 77 ∨ iI t 77 ≤ 203) ∧ (iI s 79 ≠ 0 → iI t 79 ≠ 0) ∧ (iI t 79 = 0 → iI t 77 ≤ iI s 75) ∧ (iI s 79 = 0 → iI s 77 < iI t 77) ∧ (e = 0 ∨ e = 1) ∧ PFm B N 6 s t)) := fun {_} I j p0 p1 p2 p3 => k_andsS3 (r := r + 1) G hT I j p0 p1 p2 p3
    exact ⟨hT, hA, fun {_} I j p0 p1 p2 p3 => k_orsS3 (r := r + 1) G hA I j p0 p1 p2 p3⟩
end M87k
