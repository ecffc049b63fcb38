/-! Hanging together: the pure part -/
def bsd (c s : Nat) : Option Nat := match s with
  | 0 => if c % 8 = 7 then none else some (c + 1)
  | 1 => if c % 8 = 0 then none else some (c - 1)
  | 2 => if c / 8 % 8 = 7 then none else some (c + 8)
  | 3 => if c / 8 % 8 = 0 then none else some (c - 8)
  | 4 => if c / 64 = 1 then none else some (c + 64)
  | _ => if c / 64 = 0 then none else some (c - 64)
theorem bsd_lt {c s d : Nat} (h : bsd c s = some d) (hc : c < 128) : d < 128 := by
  unfold bsd at h
  split at h <;> split at h <;> simp only [reduceCtorEq, Option.some.injEq] at h <;> omega
theorem bsd_back {c s d : Nat} (h : bsd c s = some d) (hc : c < 128) : ∃ t, t < 6 ∧ bsd d t = some c := by
  unfold bsd at h
  split at h <;> split at h <;> simp only [reduceCtorEq, Option.some.injEq] at h
  · refine ⟨1, by omega, ?_⟩; simp only [bsd]; rw [if_neg (by omega)]; congr 1; omega
  · refine ⟨0, by omega, ?_⟩; simp only [bsd]; rw [if_neg (by omega)]; congr 1; omega
  · refine ⟨3, by omega, ?_⟩; simp only [bsd]; rw [if_neg (by omega)]; congr 1; omega
  · refine ⟨2, by omega, ?_⟩; simp only [bsd]; rw [if_neg (by omega)]; congr 1; omega
  · refine ⟨5, by omega, ?_⟩; simp only [bsd]; rw [if_neg (by omega)]; congr 1; omega
  · refine ⟨4, by omega, ?_⟩; simp only [bsd]; rw [if_neg (by omega)]; congr 1; omega
/-- one more cell is reached -/
def flS (s R d : Nat) : Nat := bif s.testBit d && (List.range 6).any (fun t => match bsd d t with
  | some e => R.testBit e
  | none => false) then R ||| 2 ^ d else R
def flP (s : Nat) (R : Nat) : Nat := (List.range 128).foldl (flS s) R
def flK (s f : Nat) : Bool := Nat.beq (s &&& flP s (flP s (flP s (2 ^ f)))) s
section PURE
variable {s : Nat} {met : Nat → Bool}
theorem flS_ok (hc : ∀ c, c < 128 → met c = true → ∀ t, t < 6 → ∀ d, bsd c t = some d → s.testBit d = true → met d = true) {R d : Nat} (hd : d < 128) (hR : ∀ e, R.testBit e = true → met e = true) : ∀ e, (flS s R d).testBit e = true → met e = true := by
  intro e he
  unfold flS at he
  cases hb : (s.testBit d && (List.range 6).any (fun t => match bsd d t with
    | some e => R.testBit e
    | none => false)) with
  | false => rw [hb] at he; exact hR e he
  | true =>
    rw [hb] at he
    replace he : (R ||| 2 ^ d).testBit e = true := he
    rw [Nat.testBit_or, Bool.or_eq_true, Nat.testBit_two_pow] at he
    rcases he with he | he
    · exact hR e he
    · have : d = e := of_decide_eq_true he
      subst this
      rw [Bool.and_eq_true] at hb
      obtain ⟨t, ht, h⟩ := List.any_eq_true.mp hb.2
      cases hq : bsd d t with
      | none => rw [hq] at h; cases h
      | some g =>
        rw [hq] at h
        obtain ⟨t', ht', hb'⟩ := bsd_back hq hd
        exact hc g (bsd_lt hq hd) (hR g h) t' ht' d hb' hb.1
theorem flP_ok (hc : ∀ c, c < 128 → met c = true → ∀ t, t < 6 → ∀ d, bsd c t = some d → s.testBit d = true → met d = true) {R : Nat} (hR : ∀ e, R.testBit e = true → met e = true) : ∀ e, (flP s R).testBit e = true → met e = true := by
  unfold flP
  suffices H : ∀ (l : List Nat), (∀ d ∈ l, d < 128) → ∀ R, (∀ e, R.testBit e = true → met e = true) → ∀ e, (l.foldl (flS s) R).testBit e = true → met e = true from H _ (fun d hd => List.mem_range.mp hd) R hR
  intro l
  induction l with
  | nil => intro _ R hR; exact hR
  | cons a l ih =>
    intro hl R hR
    exact ih (fun d hd => hl d (List.mem_cons_of_mem _ hd)) _ (flS_ok hc (hl a List.mem_cons_self) hR)
theorem flK_ok {f : Nat} (hk : flK s f = true) (hf : met f = true) (hc : ∀ c, c < 128 → met c = true → ∀ t, t < 6 → ∀ d, bsd c t = some d → s.testBit d = true → met d = true) : ∀ c, s.testBit c = true → met c = true := by
  intro c h
  have e := Nat.eq_of_beq_eq_true hk
  rw [← e, Nat.testBit_and, Bool.and_eq_true] at h
  refine flP_ok hc (flP_ok hc (flP_ok hc (fun e he => ?_))) c h.2
  rw [Nat.testBit_two_pow] at he
  have : f = e := of_decide_eq_true he
  exact this ▸ hf
end PURE
/-- how many of the first n -/
def bct (f : Nat → Bool) : Nat → Nat
  | 0 => 0
  | n + 1 => bct f n + (bif f n then 1 else 0)
theorem bct_le (f : Nat → Bool) : ∀ n, bct f n ≤ n
  | 0 => Nat.le_refl _
  | n + 1 => by have := bct_le f n; unfold bct; cases f n <;> simp <;> omega
theorem bct_lt {f : Nat → Bool} : ∀ {n d : Nat}, d < n → f d = false → bct f n < n
  | 0, d, h, _ => absurd h (Nat.not_lt_zero _)
  | n + 1, d, h, hf => by
    unfold bct
    have := bct_le f n
    by_cases e : d = n
    · subst e; rw [hf]; simp; omega
    · have := bct_lt (f := f) (show d < n by omega) hf
      cases f n <;> simp <;> omega
theorem bct_eq {f g : Nat → Bool} : ∀ {n : Nat}, (∀ c, c < n → f c = g c) → bct f n = bct g n
  | 0, _ => rfl
  | n + 1, h => by unfold bct; rw [bct_eq (fun c hc => h c (by omega)), h n (by omega)]
theorem bct_up {f g : Nat → Bool} : ∀ {n d : Nat}, d < n → f d = false → g d = true → (∀ c, c ≠ d → g c = f c) → bct g n = bct f n + 1
  | 0, d, h, _, _, _ => absurd h (Nat.not_lt_zero _)
  | n + 1, d, h, hf, hg, hx => by
    unfold bct
    by_cases e : d = n
    · subst e
      rw [hf, hg, bct_eq (g := f) (fun c hc => hx c (by omega))]
      simp
    · rw [bct_up (show d < n by omega) hf hg hx, hx n (fun q => e q.symm)]
      omega
/-- the search's invariant: k cells done, of the next one t steps; n met -/
def BfI (s f k t n : Nat) (heap : Nat → Nat) (met : Nat → Bool) : Prop :=
  k ≤ n ∧ (∀ i, i < n → heap i < 128 ∧ met (heap i) = true) ∧ (∀ c, c < 128 → met c = true → s.testBit c = true ∧ ∃ i, i < n ∧ heap i = c) ∧ bct met 128 = n ∧ met f = true ∧
  (∀ i, i < n → ∀ u, u < 6 → (i < k ∨ i = k ∧ u < t) → ∀ d, bsd (heap i) u = some d → s.testBit d = true → met d = true)
theorem bf_start {s f : Nat} {heap : Nat → Nat} {met : Nat → Bool} (hf : f < 128) (hs : s.testBit f = true) (h0 : heap 0 = f) (hm : ∀ c, c < 128 → (met c = true ↔ c = f)) : BfI s f 0 0 1 heap met := by
  refine ⟨?_, ?_, ?_, ?_, ?_, ?_⟩
  · omega
  · exact fun i hi => by
      have : i = 0 := by omega
      subst this
      rw [h0]; exact ⟨hf, (hm f hf).mpr rfl⟩
  · exact fun c hc h => by
      have := (hm c hc).mp h
      subst this
      exact ⟨hs, 0, by omega, h0⟩
  ·
      have e0 : ∀ n, bct (fun _ => false) n = 0 := fun n => by
        induction n with
        | zero => rfl
        | succ n ih => unfold bct; rw [ih]; rfl
      have e1 : bct met 128 = bct (fun c => decide (c = f)) 128 := bct_eq (fun c hc => by
        have := hm c hc
        cases hq : met c with
        | true => exact (decide_eq_true (this.mp hq)).symm
        | false => exact (decide_eq_false (fun e => by rw [this.mpr e] at hq; cases hq)).symm)
      rw [e1, bct_up (f := fun _ => false) (d := f) hf rfl (decide_eq_true rfl) (fun c hc => decide_eq_false hc), e0]
  · exact (hm f hf).mpr rfl
  · exact fun i hi u hu h => by omega
/-- the step leads nowhere new -/
theorem bf_skip {s f k t n : Nat} {heap : Nat → Nat} {met : Nat → Bool} (I : BfI s f k t n heap met) (h : ∀ d, bsd (heap k) t = some d → s.testBit d = true → met d = true) : BfI s f k (t + 1) n heap met := by
  refine ⟨?_, ?_, ?_, ?_, ?_, ?_⟩
  · exact I.1
  · exact I.2.1
  · exact I.2.2.1
  · exact I.2.2.2.1
  · exact I.2.2.2.2.1
  · exact fun i hi u hu hq d hd hs => by
      by_cases e : i = k ∧ u = t
      · obtain ⟨e1, e2⟩ := e
        subst e1; subst e2
        exact h d hd hs
      · exact I.2.2.2.2.2 i hi u hu (by omega) d hd hs
/-- the step leads to a cell not met yet -/
theorem bf_take {s f k t n d : Nat} {heap heap' : Nat → Nat} {met met' : Nat → Bool} (I : BfI s f k t n heap met) (hk : k < n) (hd : bsd (heap k) t = some d) (hs : s.testBit d = true) (hm : met d = false) (h1 : met' d = true) (h2 : ∀ c, c ≠ d → met' c = met c) (h3 : heap' n = d) (h4 : ∀ i, i ≠ n → heap' i = heap i) : BfI s f k (t + 1) (n + 1) heap' met' := by
  refine ⟨?_, ?_, ?_, ?_, ?_, ?_⟩
  · have := I.1; omega
  · exact fun i hi => by
      by_cases e : i = n
      · subst e; rw [h3]; exact ⟨bsd_lt hd (I.2.1 k hk).1, h1⟩
      · rw [h4 i e]
        have q := I.2.1 i (by omega)
        refine ⟨q.1, ?_⟩
        by_cases e' : heap i = d
        · rw [e']; exact h1
        · rw [h2 _ e']; exact q.2
  · exact fun c hc h => by
      by_cases e : c = d
      · subst e; exact ⟨hs, n, by omega, h3⟩
      · rw [h2 c e] at h
        obtain ⟨q, i, hi, he⟩ := I.2.2.1 c hc h
        exact ⟨q, i, by omega, by rw [h4 i (by omega)]; exact he⟩
  · rw [bct_up (bsd_lt hd (I.2.1 k hk).1) hm h1 h2, I.2.2.2.1]
  ·
      by_cases e : f = d
      · rw [e]; exact h1
      · rw [h2 f e]; exact I.2.2.2.2.1
  · exact fun i hi u hu hq g hg hsg => by
      by_cases e : g = d
      · rw [e]; exact h1
      · rw [h2 g e]
        by_cases ei : i = n
        · omega
        · rw [h4 i ei] at hg
          by_cases eq : i = k ∧ u = t
          · obtain ⟨e1, e2⟩ := eq
            subst e1; subst e2
            rw [hd] at hg
            exact absurd (Option.some.inj hg).symm e
          · exact I.2.2.2.2.2 i (by omega) u hu (by omega) g hg hsg
/-- a cell is done -/
theorem bf_next {s f k n : Nat} {heap : Nat → Nat} {met : Nat → Bool} (I : BfI s f k 6 n heap met) (hk : k < n) : BfI s f (k + 1) 0 n heap met := by
  refine ⟨?_, ?_, ?_, ?_, ?_, ?_⟩
  · omega
  · exact I.2.1
  · exact I.2.2.1
  · exact I.2.2.2.1
  · exact I.2.2.2.2.1
  · exact fun i hi u hu hq d hd hs => I.2.2.2.2.2 i hi u hu (by omega) d hd hs
theorem bf_room {s f k t n d : Nat} {heap : Nat → Nat} {met : Nat → Bool} (I : BfI s f k t n heap met) (hd : d < 128) (hm : met d = false) : n < 128 := by
  have := bct_lt hd hm
  rw [I.2.2.2.1] at this
  exact this
/-- all are met at the end -/
theorem bf_done {s f n : Nat} {heap : Nat → Nat} {met : Nat → Bool} (I : BfI s f n 0 n heap met) (hk : flK s f = true) : n = bct (s.testBit) 128 := by
  have h : ∀ c, s.testBit c = true → met c = true := flK_ok hk I.2.2.2.2.1 (fun c hc hm t ht d hd hs => by
    obtain ⟨-, i, hi, he⟩ := I.2.2.1 c hc hm
    subst he
    exact I.2.2.2.2.2 i hi t ht (Or.inl hi) d hd hs)
  rw [← I.2.2.2.1]
  refine bct_eq (fun c hc => ?_)
  cases hq : met c with
  | true => exact (I.2.2.1 c hc hq).1.symm
  | false =>
    cases hr : s.testBit c with
    | true => rw [h c hr] at hq; cases hq
    | false => rfl
