/-! The class's reading of rules: tokens, codes, what a reading comes to -/
theorem sk_hi {B : Nat → Int} {N : Int} : ∀ (f : Nat) {p : Int}, (N - p).toNat ≤ f → p ≤ N → sk B N p ≤ N
  | 0, p, h, h1 => by rw [sk_stop (Or.inl (by omega))]; exact h1
  | f + 1, p, h, h1 => by
    by_cases q : p < N ∧ B p.toNat = 32
    · rw [sk_blank q.1 q.2]
      exact sk_hi (B := B) (N := N) f (p := p + 1) (by omega) (by omega)
    · rw [sk_stop (by
        by_cases z : p < N
        · exact Or.inr (fun w => q ⟨z, w⟩)
        · exact Or.inl (by omega))]
      exact h1
theorem sk_N {B : Nat → Int} {N p : Int} (h : p ≤ N) : sk B N p ≤ N := sk_hi _ (Nat.le_refl _) h
theorem nmE_hi {B : Nat → Int} {N : Int} : ∀ (f : Nat) {p v : Int}, (N - p).toNat ≤ f → p ≤ N → nmE B N p v ≤ N
  | 0, p, v, h, h1 => by rw [nmE_stop (Or.inl (by omega))]; exact h1
  | f + 1, p, v, h, h1 => by
    by_cases q : p < N ∧ 48 ≤ B p.toNat ∧ B p.toNat ≤ 57
    · rw [nmE_dig q.1 q.2.1 q.2.2]
      exact nmE_hi (B := B) (N := N) f (by omega) (by omega)
    · rw [nmE_stop (by omega)]
      exact h1
theorem nmE_N {B : Nat → Int} {N p v : Int} (h : p ≤ N) : nmE B N p v ≤ N := nmE_hi _ (Nat.le_refl _) h
theorem wd_N {B : Nat → Int} {N p : Int} (h : p ≤ N) : wdE B N p ≤ N := by
  rcases (wd_lo (B := B) (N := N) (p := p) _ (Nat.le_refl _)).2 with z | z <;> omega
/-- a reading that ends well, ends behind p, within N, with no more codes than bytes -/
def GDR (N b p : Int) (r : Rd) : Prop := r.1 = 0 → p ≤ r.2.2 ∧ r.2.2 ≤ N ∧ (r.2.1.length : Int) + p ≤ b + r.2.2
theorem gd_no {N b p : Int} {r : Rd} (h : r.1 ≠ 0) : GDR N b p r := fun q => absurd q h
theorem gd_ok {N b p q : Int} {c : List Int} (h1 : p ≤ q) (h2 : q ≤ N) (h3 : (c.length : Int) + p ≤ b + q) : GDR N b p (0, c, q) := fun _ => ⟨h1, h2, h3⟩
theorem gd_if {N b p : Int} {x : Prop} [Decidable x] {r s : Rd} (h1 : x → GDR N b p r) (h2 : ¬ x → GDR N b p s) : GDR N b p (if x then r else s) := by
  by_cases e : x
  · rw [if_pos e]; exact h1 e
  · rw [if_neg e]; exact h2 e
theorem gd_bnd {N b p b1 p1 : Int} {r : Rd} {g : List Int → Int → Rd} (h : GDR N b1 p1 r) (h1 : ∀ c q, p1 ≤ q → q ≤ N → (c.length : Int) + p1 ≤ b1 + q → GDR N b p (g c q)) : GDR N b p (bnd r g) := by
  unfold bnd
  by_cases e : r.1 = 0
  · rw [if_pos e]
    have z := h e
    exact h1 _ _ z.1 z.2.1 z.2.2
  · rw [if_neg e]; exact gd_no e
/-- the codes that a rest begins with -/
def rsB (m : Nat) (a : List Int) : Int := if m = 2 ∨ m = 4 ∨ m = 7 ∨ 9 ≤ m then a.length else 0
theorem len3 {a c : List Int} {x : Int} : ((a ++ c ++ [x]).length : Int) = (a.length : Int) + (c.length : Int) + 1 := by
  rw [List.length_append, List.length_append]
  show ((a.length + c.length + 1 : Nat) : Int) = _
  omega
theorem pg_gd {B : Nat → Int} {N : Int} : ∀ (f m : Nat) (a : List Int) (p o : Int), p ≤ N → GDR N (rsB m a) p (PG B N f m a p o)
  | 0, m, a, p, o, _ => gd_no (by show (9 : Int) ≠ 0; decide)
  | f + 1, m, a, p, o, hp => by
    have ih := pg_gd (B := B) (N := N) f
    have rest : ∀ (w u : Nat) (a c : List Int) (q p1 x o : Int), rsB w (a ++ c ++ [x]) = ((a ++ c ++ [x]).length : Int) → q ≤ N → p + 1 ≤ p1 → (c.length : Int) + p1 ≤ 0 + q → p1 ≤ q → GDR N (a.length : Int) p (PG B N f w (a ++ c ++ [x]) q o) := by
      intro w u a c q p1 x o hw hq h1 h2 h3 z
      have y := ih w (a ++ c ++ [x]) q o hq z
      rw [hw, len3] at y
      exact ⟨by omega, y.2.1, by omega⟩
    have go : ∀ (w : Nat) (c : List Int) (q o : Int), rsB w c = (c.length : Int) → q ≤ N → (c.length : Int) + p ≤ 0 + q → p ≤ q → GDR N 0 p (PG B N f w c q o) := by
      intro w c q o hw hq h2 h3 z
      have y := ih w c q o hq z
      rw [hw] at y
      exact ⟨by omega, y.2.1, by omega⟩
    by_cases m0 : m = 0
    · subst m0
      rw [pg_0]
      show GDR N 0 p _
      refine gd_if (fun h => gd_if (fun _ => gd_no (by show (2 : Int) ≠ 0; decide)) (fun _ => ?_)) (fun _ => gd_if (fun h => gd_if (fun _ => gd_no (by show (3 : Int) ≠ 0; decide)) (fun _ => gd_bnd (ih 3 [] _ _ (sk_N (by have := h.1; omega))) (fun c q h1 h2 h3 => gd_if (fun h4 => ?_) (fun _ => gd_no (by show (1 : Int) ≠ 0; decide))))) (fun _ => gd_if (fun hw => gd_if (fun _ => gd_no (by show (1 : Int) ≠ 0; decide)) (fun h5 => gd_if (fun _ => gd_no (by show (3 : Int) ≠ 0; decide)) (fun _ => ?_))) (fun _ => gd_if (fun _ => gd_no (by show (1 : Int) ≠ 0; decide)) (fun h => ?_))))
      · have e1 := nmE_gt (B := B) (N := N) (p := p) (v := 0) h.1 h.2.1 h.2.2
        have e2 := sk_le (B := B) (N := N) (p := nmE B N p 0)
        exact gd_ok (by omega) (sk_N (nmE_N hp)) (by show (1 : Int) + p ≤ _; omega)
      · have e1 := sk_le (B := B) (N := N) (p := p + 1)
        have e2 := sk_le (B := B) (N := N) (p := q + 1)
        have e3 : rsB 3 [] = 0 := rfl
        exact gd_ok (by omega) (sk_N (by have := h4.1; omega)) (by omega)
      · have h6 : chT B N (sk B N (wdE B N p)) 40 := Classical.byContradiction h5
        have e0 := wd_le (B := B) (N := N) (p := p)
        have e1 := sk_le (B := B) (N := N) (p := wdE B N p)
        have e2 := sk_le (B := B) (N := N) (p := sk B N (wdE B N p) + 1)
        have e3 : rsB 3 [] = 0 := rfl
        refine gd_bnd (ih 3 [] _ _ (sk_N (by have := h6.1; omega))) (fun c q h1 h2 h3 => gd_if (fun _ => gd_no (by show (1 : Int) ≠ 0; decide)) (fun h7 => ?_))
        have h8 : chT B N q 44 := Classical.byContradiction h7
        have e4 := sk_le (B := B) (N := N) (p := q + 1)
        refine gd_bnd (ih 3 [] _ _ (sk_N (by have := h8.1; omega))) (fun d r k1 k2 k3 => gd_if (fun h9 => ?_) (fun _ => gd_no (by show (1 : Int) ≠ 0; decide)))
        have e5 := sk_le (B := B) (N := N) (p := r + 1)
        exact gd_ok (by omega) (sk_N (by have := h9.1; omega)) (by rw [len3]; omega)
      · have h1 := wh_let (nm_wh h).1
        have e1 := wd_gt h1.1 h1.2.1 h1.2.2
        have e2 := sk_le (B := B) (N := N) (p := wdE B N p)
        exact gd_ok (by omega) (sk_N (wd_N hp)) (by show (1 : Int) + p ≤ _; omega)
    by_cases m1 : m = 1
    · subst m1
      rw [pg_1]
      exact gd_bnd (ih 0 [] p o hp) (fun c q h1 h2 h3 => go 2 c q o rfl h2 h3 h1)
    by_cases m2 : m = 2
    · subst m2
      rw [pg_2]
      refine gd_if (fun h => ?_) (fun _ => gd_ok (Int.le_refl _) hp (by show (a.length : Int) + p ≤ (a.length : Int) + p; omega))
      have hl : p < N := by rcases h with h | h <;> exact h.1
      have e1 := sk_le (B := B) (N := N) (p := p + 1)
      exact gd_bnd (ih 0 [] _ o (sk_N (by omega))) (fun c q h1 h2 h3 => rest 2 0 a c q _ _ o rfl h2 e1 h3 h1)
    by_cases m3 : m = 3
    · subst m3
      rw [pg_3]
      exact gd_bnd (ih 1 [] p o hp) (fun c q h1 h2 h3 => go 4 c q o rfl h2 h3 h1)
    by_cases m4 : m = 4
    · subst m4
      rw [pg_4]
      refine gd_if (fun h => ?_) (fun _ => gd_ok (Int.le_refl _) hp (by show (a.length : Int) + p ≤ (a.length : Int) + p; omega))
      have hl : p < N := by rcases h with h | h <;> exact h.1
      have e1 := sk_le (B := B) (N := N) (p := p + 1)
      exact gd_bnd (ih 1 [] _ o (sk_N (by omega))) (fun c q h1 h2 h3 => rest 4 0 a c q _ _ o rfl h2 e1 h3 h1)
    by_cases m5 : m = 5
    · subst m5
      rw [pg_5]
      show GDR N 0 p _
      refine gd_if (fun h => gd_if (fun _ => gd_no (by show (3 : Int) ≠ 0; decide)) (fun _ => ?_)) (fun _ => gd_if (fun h => gd_if (fun _ => gd_no (by show (3 : Int) ≠ 0; decide)) (fun _ => ?_)) (fun _ => ?_))
      · have z := wh_let (show whV B N p ≠ 0 by omega)
        have e1 := wd_gt z.1 z.2.1 z.2.2
        have e2 := sk_le (B := B) (N := N) (p := wdE B N p)
        have e3 : rsB 5 [] = 0 := rfl
        refine gd_bnd (ih 5 [] _ _ (sk_N (wd_N hp))) (fun c q h1 h2 h3 => gd_ok (by omega) h2 ?_)
        rw [List.length_append]
        show ((c.length + 1 : Nat) : Int) + p ≤ _
        omega
      · have e1 := sk_le (B := B) (N := N) (p := p + 1)
        have e3 : rsB 8 [] = 0 := rfl
        refine gd_bnd (ih 8 [] _ _ (sk_N (by have := h.1; omega))) (fun c q h1 h2 h3 => gd_if (fun h4 => ?_) (fun _ => gd_no (by show (1 : Int) ≠ 0; decide)))
        have e2 := sk_le (B := B) (N := N) (p := q + 1)
        exact gd_ok (by omega) (sk_N (by have := h4.1; omega)) (by omega)
      · have e3 : rsB 3 [] = 0 := rfl
        refine gd_bnd (ih 3 [] p o hp) (fun c q h1 h2 h3 => gd_if (fun h4 => ?_) (fun _ => gd_no (by show (1 : Int) ≠ 0; decide)))
        have hl : q < N := by rcases h4 with h | h | h <;> exact h.1
        have e2 := sk_le (B := B) (N := N) (p := q + 1)
        refine gd_bnd (ih 3 [] _ o (sk_N (by omega))) (fun d r k1 k2 k3 => gd_ok (by omega) k2 ?_)
        rw [len3]; omega
    by_cases m6 : m = 6
    · subst m6
      rw [pg_6]
      exact gd_bnd (ih 5 [] p o hp) (fun c q h1 h2 h3 => go 7 c q o rfl h2 h3 h1)
    by_cases m7 : m = 7
    · subst m7
      rw [pg_7]
      refine gd_if (fun h => ?_) (fun _ => gd_ok (Int.le_refl _) hp (by show (a.length : Int) + p ≤ (a.length : Int) + p; omega))
      have z := wh_let (show whV B N p ≠ 0 by omega)
      have e1 := wd_gt z.1 z.2.1 z.2.2
      have e2 := sk_le (B := B) (N := N) (p := wdE B N p)
      exact gd_bnd (ih 5 [] _ o (sk_N (wd_N hp))) (fun c q h1 h2 h3 => rest 7 0 a c q _ _ o rfl h2 (by omega) h3 h1)
    by_cases m8 : m = 8
    · subst m8
      rw [pg_8]
      exact gd_bnd (ih 6 [] p o hp) (fun c q h1 h2 h3 => go 9 c q o rfl h2 h3 h1)
    · have m9 : 9 ≤ m := by omega
      have eb : ∀ c : List Int, rsB m c = (c.length : Int) := fun c => if_pos (Or.inr (Or.inr (Or.inr m9)))
      have ePG : PG B N (f + 1) m a p o = PG B N (f + 1) 9 a p o := by
        show (if m = 0 then _ else if m = 1 then _ else if m = 2 then _ else if m = 3 then _ else if m = 4 then _ else if m = 5 then _ else if m = 6 then _ else if m = 7 then _ else if m = 8 then _ else _) = _
        rw [if_neg m0, if_neg m1, if_neg m2, if_neg m3, if_neg m4, if_neg m5, if_neg m6, if_neg m7, if_neg m8]
        rfl
      rw [ePG, pg_9, eb]
      refine gd_if (fun h => ?_) (fun _ => gd_ok (Int.le_refl _) hp (by omega))
      have z := wh_let (show whV B N p ≠ 0 by omega)
      have e1 := wd_gt z.1 z.2.1 z.2.2
      have e2 := sk_le (B := B) (N := N) (p := wdE B N p)
      exact gd_bnd (ih 6 [] _ o (sk_N (wd_N hp))) (fun c q h1 h2 h3 => rest 9 0 a c q _ _ o rfl h2 (by omega) h3 h1)
theorem pgr_gd {B : Nat → Int} {N : Int} {m : Nat} {a : List Int} {p o : Int} {r : Rd} (h : PGR B N m a p o r) (hp : p ≤ N) : GDR N (rsB m a) p r := by
  obtain ⟨-, f, h⟩ := h
  rw [← h]
  exact pg_gd f m a p o hp
/-- the sign of the text that was read last, with words -/
def TKW (B : Nat → Int) (N k st a v : Int) : Prop := (N ≤ st ∧ k = -1) ∨ (dgP B N st ∧ k = -2 ∧ v = nmV B N st 0 ∧ a = nmE B N st 0) ∨ (st < N ∧ 97 ≤ B st.toNat ∧ B st.toNat ≤ 122 ∧ k = -3 ∧ a = wdE B N st) ∨ (st < N ∧ (B st.toNat < 48 ∨ 57 < B st.toNat) ∧ (B st.toNat < 97 ∨ 122 < B st.toNat) ∧ k = B st.toNat ∧ 0 ≤ k ∧ a = st + 1)
theorem tkw_num {B : Nat → Int} {N k st a v x Q : Int} (hx : x = Q) (hs : st = Q) (h : Q < N) (h1 : 48 ≤ B x.toNat) (h2 : B x.toNat ≤ 57) (hk : k = -2) (hv : v = nmV B N Q 0) (ha : a = nmE B N Q 0) : TKW B N k st a v := by
  subst hx hs
  exact Or.inr (Or.inl ⟨⟨h, h1, h2⟩, hk, hv, ha⟩)
theorem tkw_wrd {B : Nat → Int} {N k st a v x Q : Int} (hx : x = Q) (hs : st = Q) (h : Q < N) (h1 : 97 ≤ B x.toNat) (h2 : B x.toNat ≤ 122) (hk : k = -3) (ha : a = wdE B N Q) : TKW B N k st a v := by
  subst hx hs
  exact Or.inr (Or.inr (Or.inl ⟨h, h1, h2, hk, ha⟩))
theorem tkw_sig {B : Nat → Int} {N k st a v x Q : Int} (hx : x = Q) (hs : st = Q) (h : Q < N) (h1 : B x.toNat < 48 ∨ 57 < B x.toNat) (h2 : B x.toNat < 97 ∨ 122 < B x.toNat) (hk : k = B x.toNat) (h0 : 0 ≤ k) (ha : a = Q + 1) : TKW B N k st a v := by
  subst hx hs
  exact Or.inr (Or.inr (Or.inr ⟨h, h1, h2, hk, h0, ha⟩))
/-- a sign that is neither of a number nor of a word -/
theorem tkw_ch {B : Nat → Int} {N k st a v x : Int} (h : TKW B N k st a v) (h0 : 0 ≤ x) (h1 : x < 48 ∨ 57 < x) (h2 : x < 97 ∨ 122 < x) : (k = x → chT B N st x ∧ a = st + 1) ∧ (k ≠ x → ¬ chT B N st x) := by
  rcases h with h | h | h | h
  · exact ⟨fun q => by omega, fun _ q => by omega⟩
  · have := h.1; exact ⟨fun q => by omega, fun _ q => by omega⟩
  · exact ⟨fun q => by omega, fun _ q => by omega⟩
  · exact ⟨fun q => ⟨⟨h.1, by omega⟩, h.2.2.2.2.2⟩, fun q z => by omega⟩
theorem tkw_dg {B : Nat → Int} {N k st a v : Int} (h : TKW B N k st a v) : (k = -2 → dgP B N st ∧ v = nmV B N st 0 ∧ a = nmE B N st 0) ∧ (k ≠ -2 → ¬ dgP B N st) := by
  rcases h with h | h | h | h
  · exact ⟨fun q => by omega, fun _ q => by omega⟩
  · exact ⟨fun _ => ⟨h.1, h.2.2⟩, fun q => absurd h.2.1 q⟩
  · exact ⟨fun q => by omega, fun _ q => by omega⟩
  · exact ⟨fun q => by omega, fun _ q => by omega⟩
theorem tkw_wd {B : Nat → Int} {N k st a v : Int} (h : TKW B N k st a v) : (k = -3 → a = wdE B N st ∧ st < wdE B N st) ∧ (k ≠ -3 → whV B N st = 0) := by
  rcases h with h | h | h | h
  · refine ⟨fun q => by omega, fun _ => Classical.byContradiction (fun z => ?_)⟩
    have := wh_let z; omega
  · refine ⟨fun q => by omega, fun _ => Classical.byContradiction (fun z => ?_)⟩
    have := wh_let z; have := h.1; omega
  · exact ⟨fun _ => ⟨h.2.2.2.2, wd_gt h.1 h.2.1 h.2.2.1⟩, fun q => by omega⟩
  · refine ⟨fun q => by omega, fun _ => Classical.byContradiction (fun z => ?_)⟩
    have := wh_let z; omega
theorem tkw_end {B : Nat → Int} {N k st a v : Int} (h : TKW B N k st a v) : k = -1 ↔ N ≤ st := by
  rcases h with h | h | h | h
  · exact ⟨fun _ => h.1, fun _ => h.2⟩
  · have := h.1; exact ⟨fun q => by omega, fun q => by omega⟩
  · exact ⟨fun q => by omega, fun q => by omega⟩
  · exact ⟨fun q => by omega, fun q => by omega⟩
/-- the number of a word of the program's -/
def whL : List Nat → Int → Int
  | [], v => v
  | c :: r, v => whL r (27 * v + c - 96)
def okL (L : List Nat) : Bool := decide (1 ≤ L.length) && decide (L.length ≤ 6) && L.all (fun c => decide (97 ≤ c) && decide (c ≤ 122))
/-- n letters at p, their number behind v -/
def whQ (B : Nat → Int) (p : Int) : Nat → Int → Int
  | 0, v => v
  | n + 1, v => whQ B (p + 1) n (27 * v + B p.toNat - 96)
theorem whQ_s {B : Nat → Int} : ∀ (n : Nat) (p v : Int), whQ B p (n + 1) v = 27 * whQ B p n v + B (p + n).toNat - 96
  | 0, p, v => by
    show 27 * v + B p.toNat - 96 = 27 * v + B (p + (0 : Nat)).toNat - 96
    rw [show p + ((0 : Nat) : Int) = p by omega]
  | n + 1, p, v => by
    show whQ B (p + 1) (n + 1) _ = 27 * whQ B (p + 1) n _ + _ - 96
    rw [whQ_s n (p + 1), show p + 1 + ((n : Nat) : Int) = p + ((n + 1 : Nat) : Int) by omega]
theorem whP_Q {B : Nat → Int} {p : Int} : ∀ n : Nat, whP B p n = whQ B p n 0
  | 0 => rfl
  | n + 1 => by
    rw [whQ_s]
    show 27 * whP B p n + _ - 96 = _
    rw [whP_Q n]
/-- two words of one length with one number have the same letters -/
theorem whQ_in {B : Nat → Int} : ∀ (L : List Nat) (p v w : Int), (∀ i : Nat, i < L.length → 97 ≤ B (p + i).toNat ∧ B (p + i).toNat ≤ 122) → (∀ c ∈ L, 97 ≤ c ∧ c ≤ 122) → (whQ B p L.length v = whL L w ↔ v = w ∧ ∀ i : Nat, i < L.length → B (p + i).toNat = (L.getD i 0 : Nat))
  | [], p, v, w, _, _ => ⟨fun h => ⟨h, fun i hi => absurd hi (Nat.not_lt_zero _)⟩, fun h => h.1⟩
  | c :: r, p, v, w, hb, hL => by
    have h0 := hb 0 (Nat.succ_pos _)
    rw [show p + ((0 : Nat) : Int) = p by omega] at h0
    have hc := hL c (List.mem_cons_self ..)
    have ih := whQ_in (B := B) r (p + 1) (27 * v + B p.toNat - 96) (27 * w + c - 96) (fun i hi => by have := hb (i + 1) (Nat.succ_lt_succ hi); rw [show p + 1 + (i : Int) = p + ((i + 1 : Nat) : Int) by omega]; exact this) (fun d hd => hL d (List.mem_cons_of_mem _ hd))
    show whQ B (p + 1) r.length _ = whL r _ ↔ _
    rw [ih]
    constructor
    · rintro ⟨h1, h2⟩
      refine ⟨by omega, fun i hi => ?_⟩
      cases i with
      | zero =>
        rw [show p + ((0 : Nat) : Int) = p by omega]
        show B p.toNat = (c : Int)
        omega
      | succ i =>
        have := h2 i (Nat.lt_of_succ_lt_succ hi)
        rw [show p + 1 + (i : Int) = p + ((i + 1 : Nat) : Int) by omega] at this
        exact this
    · rintro ⟨h1, h2⟩
      have e0 := h2 0 (Nat.succ_pos _)
      rw [show p + ((0 : Nat) : Int) = p by omega] at e0
      replace e0 : B p.toNat = (c : Int) := e0
      refine ⟨by omega, fun i hi => ?_⟩
      have := h2 (i + 1) (Nat.succ_lt_succ hi)
      rw [show p + 1 + (i : Int) = p + ((i + 1 : Nat) : Int) by omega]
      exact this
theorem whL_bd : ∀ (L : List Nat) (v : Int), 0 ≤ v → (∀ c ∈ L, 97 ≤ c ∧ c ≤ 122) → 27 ^ L.length * v ≤ whL L v ∧ whL L v < 27 ^ L.length * (v + 1)
  | [], v, h0, _ => by
    show 27 ^ 0 * v ≤ v ∧ v < 27 ^ 0 * (v + 1)
    rw [Int.pow_zero]; omega
  | c :: r, v, h0, hL => by
    have hc := hL c (List.mem_cons_self ..)
    have ih := whL_bd r (27 * v + c - 96) (by omega) (fun d hd => hL d (List.mem_cons_of_mem _ hd))
    have e : (27 : Int) ^ (c :: r).length = 27 ^ r.length * 27 := Int.pow_succ ..
    have hp : (0 : Int) < 27 ^ r.length := Int.pow_pos (by decide)
    rw [e]
    show _ ≤ whL r (27 * v + c - 96) ∧ whL r (27 * v + c - 96) < _
    have a1 : (27 : Int) ^ r.length * 27 * v ≤ 27 ^ r.length * (27 * v + c - 96) := by
      rw [Int.mul_assoc]; exact Int.mul_le_mul_of_nonneg_left (by omega) (Int.le_of_lt hp)
    have a2 : (27 : Int) ^ r.length * (27 * v + c - 96 + 1) ≤ 27 ^ r.length * 27 * (v + 1) := by
      rw [Int.mul_assoc]; exact Int.mul_le_mul_of_nonneg_left (by omega) (Int.le_of_lt hp)
    exact ⟨Int.le_trans a1 ih.1, Int.lt_of_lt_of_le ih.2 a2⟩
/-- a word of the program's at p, told by its number -/
theorem wh_is {B : Nat → Int} {N p : Int} {L : List Nat} (hL : okL L = true) : whV B N p = whL L 0 ↔ (wdE B N p - p = (L.length : Int) ∧ ∀ i : Nat, i < L.length → B (p + i).toNat = (L.getD i 0 : Nat)) := by
  unfold okL at hL
  simp only [Bool.and_eq_true, decide_eq_true_eq, List.all_eq_true] at hL
  obtain ⟨⟨h1, h2⟩, h3⟩ := hL
  have h4 := wd_le (B := B) (N := N) (p := p)
  have hl : ∀ i : Nat, (i : Int) < wdE B N p - p → 97 ≤ B (p + i).toNat ∧ B (p + i).toNat ≤ 122 := fun i hi => (wd_in (B := B) (N := N) (p := p) _ (Nat.le_refl _) (q := p + i) (by omega) (by omega)).2
  obtain ⟨n, hn⟩ : ∃ n : Nat, n = (wdE B N p - p).toNat := ⟨_, rfl⟩
  have lb := whL_bd L 0 (Int.le_refl _) h3
  have lo : ∀ m : Nat, m + 1 = L.length → (27 : Int) ^ m ≤ whL L 0 := by
    intro m hm
    cases L with
    | nil => cases hm
    | cons c r =>
      have hc := h3 c (List.mem_cons_self ..)
      have b := whL_bd r (27 * 0 + c - 96) (by omega) (fun d hd => h3 d (List.mem_cons_of_mem _ hd))
      have hr : r.length = m := Nat.succ.inj hm.symm
      rw [hr] at b
      have hp : (0 : Int) < 27 ^ m := Int.pow_pos (by decide)
      have a1 : (27 : Int) ^ m * 1 ≤ 27 ^ m * (27 * 0 + c - 96) := Int.mul_le_mul_of_nonneg_left (by omega) (Int.le_of_lt hp)
      rw [Int.mul_one] at a1
      exact Int.le_trans a1 b.1
  have mono : ∀ i j : Nat, i ≤ j → (27 : Int) ^ i ≤ 27 ^ j := by
    intro i j h
    induction h with
    | refl => exact Int.le_refl _
    | step h ih =>
      rename_i k
      have hp : (0 : Int) < 27 ^ k := Int.pow_pos (by decide)
      rw [show (27 : Int) ^ (k + 1) = 27 ^ k * 27 from Int.pow_succ ..]
      omega
  constructor
  · intro h
    unfold whV at h
    by_cases c : wdE B N p - p ≤ 6
    · rw [if_pos c, ← hn] at h
      have hb := whP_bd (B := B) (p := p) n (fun i hi => hl i (by omega))
      have hz : n = L.length := by
        rcases Nat.lt_trichotomy n L.length with q | q | q
        · exfalso
          obtain ⟨m, hm⟩ : ∃ m, m + 1 = L.length := ⟨L.length - 1, by omega⟩
          have := lo m hm
          have := mono n m (by omega)
          omega
        · exact q
        · exfalso
          obtain ⟨m, rfl⟩ : ∃ m, n = m + 1 := ⟨n - 1, by omega⟩
          have a := whP_lo (B := B) (p := p) m (fun i hi => (hl i (by omega)).1)
          have := mono L.length m (by omega)
          rw [Int.zero_add, Int.mul_one] at lb
          omega
      rw [whP_Q, hz] at h
      refine ⟨by omega, ((whQ_in L p 0 0 (fun i hi => hl i (by omega)) h3).mp h).2⟩
    · rw [if_neg c] at h
      rw [Int.mul_zero] at lb
      omega
  · rintro ⟨q1, q2⟩
    unfold whV
    rw [if_pos (by omega), ← hn, whP_Q, show n = L.length by omega]
    exact (whQ_in L p 0 0 (fun i hi => hl i (by omega)) h3).mpr ⟨rfl, q2⟩
/-- the codes that the class has put so far -/
def DL (t : PS) : List Int := (List.range (iI t 16).toNat).map (fun j => iC t 18 j)
theorem DL_fm {L M : List Nat} {s t : PS} (F : Fm L M s t) (h1 : 16 ∉ L) (h2 : 18 ∉ M) : DL t = DL s := by
  unfold DL
  rw [fm_i F h1]
  exact List.map_congr_left (fun j _ => fm_c F h2)
theorem DL_len {t : PS} (h : 0 ≤ iI t 16) : ((DL t).length : Int) = iI t 16 := by
  unfold DL
  rw [List.length_map, List.length_range]
  omega
theorem DL_put {s t : PS} {x : Int} (h : UPD 18 (iI s 16) x s t) (h0 : 0 ≤ iI s 16) (h1 : iI t 16 = iI s 16 + 1) : DL t = DL s ++ [x] := by
  unfold DL
  rw [h1, show (iI s 16 + 1).toNat = (iI s 16).toNat + 1 by omega, List.range_succ, List.map_append]
  congr 1
  · exact List.map_congr_left (fun j hj => h.2 j (by have := List.mem_range.mp hj; omega))
  · show [iC t 18 (iI s 16).toNat] = [x]
    rw [h.1]
/-- what a reading of the class's comes to: e its answer, D the codes ahead of it -/
def RDc (B : Nat → Int) (N : Int) (m : Nat) (p o : Int) (D : List Int) (t : PS) (e : Int) : Prop := ∃ r : Rd, PGR B N m [] p o r ∧ ((e = 1 ∧ r.1 = 0 ∧ iI t 4 = r.2.2 ∧ DL t = D ++ r.2.1) ∨ (e = 0 ∧ r.1 ≠ 0 ∧ iI t 7 = r.1))
theorem rd_ok {B : Nat → Int} {N : Int} {m : Nat} {p o q : Int} {D c : List Int} {t : PS} (h : PGR B N m [] p o (0, c, q)) (h1 : iI t 4 = q) (h2 : DL t = D ++ c) : RDc B N m p o D t 1 := ⟨_, h, Or.inl ⟨rfl, rfl, h1, h2⟩⟩
theorem rd_no {B : Nat → Int} {N : Int} {m : Nat} {p o k q : Int} {D c : List Int} {t : PS} (h : PGR B N m [] p o (k, c, q)) (hk : k ≠ 0) (h1 : iI t 7 = k) : RDc B N m p o D t 0 := ⟨_, h, Or.inr ⟨rfl, hk, h1⟩⟩
theorem rd_num {B : Nat → Int} {N : Int} {m : Nat} {p o e : Int} {D : List Int} {t : PS} (h : RDc B N m p o D t e) (he : e ≠ 0) (hp : p ≤ N) (hm : rsB m [] = 0) (h0 : 0 ≤ iI t 16) : e = 1 ∧ p ≤ iI t 4 ∧ iI t 4 ≤ N ∧ iI t 16 + p ≤ (D.length : Int) + iI t 4 := by
  obtain ⟨r, h1, h2 | h2⟩ := h
  · obtain ⟨e1, z, h3, h4⟩ := h2
    have g := pgr_gd h1 hp z
    have l := DL_len h0
    rw [h4, List.length_append] at l
    rw [hm] at g
    refine ⟨e1, by omega, by omega, by omega⟩
  · exact absurd h2.1 he
theorem rd_e {B : Nat → Int} {N : Int} {m : Nat} {p o e : Int} {D : List Int} {t : PS} (h : RDc B N m p o D t e) : e = 0 ∨ e = 1 := by
  obtain ⟨r, h1, h2 | h2⟩ := h
  · exact Or.inr h2.1
  · exact Or.inl h2.1
/-- a reading that failed, within another one -/
theorem rd_bad {B : Nat → Int} {N : Int} {m m1 : Nat} {p o p1 o1 e : Int} {D D1 : List Int} {t u : PS} (h : RDc B N m1 p1 o1 D1 t e) (he : e = 0) (hu : iI u 7 = iI t 7) (g : ∀ r : Rd, PGR B N m1 [] p1 o1 r → r.1 ≠ 0 → PGR B N m [] p o r) : RDc B N m p o D u 0 := by
  obtain ⟨r, h1, h2 | h2⟩ := h
  · omega
  · exact ⟨r, g r h1 h2.2.1, Or.inr ⟨rfl, h2.2.1, by rw [hu]; exact h2.2.2⟩⟩
/-- the same of the rest: what it comes to, the whole comes to -/
def RSc (B : Nat → Int) (N : Int) (m w : Nat) (p o : Int) (D : List Int) (t : PS) : Prop := ∃ a : List Int, DL t = D ++ a ∧ ∀ r, PGR B N m a (iI t 4) o r → PGR B N w [] p o r
theorem rx_0 {B : Nat → Int} {N : Int} {m m1 w : Nat} {p o e : Int} {D : List Int} {t : PS} (h : RDc B N m1 p o D t e) (he : e ≠ 0) (g : ∀ r r1 : Rd, PGR B N m1 [] p o r1 → r1.1 = 0 → PGR B N m r1.2.1 r1.2.2 o r → PGR B N w [] p o r) : RSc B N m w p o D t := by
  obtain ⟨r, h1, h2 | h2⟩ := h
  · exact ⟨r.2.1, h2.2.2.2, fun s hs => g s r h1 h2.2.1 (by rw [← h2.2.2.1]; exact hs)⟩
  · exact absurd h2.1 he
theorem rx_end {B : Nat → Int} {N : Int} {m w : Nat} {p o : Int} {D : List Int} {t : PS} (h : RSc B N m w p o D t) (g : ∀ a : List Int, PGR B N m a (iI t 4) o (0, a, iI t 4)) : RDc B N w p o D t 1 := by
  obtain ⟨a, h1, h2⟩ := h
  exact rd_ok (h2 _ (g a)) rfl h1
/-- another of a rest: read, its code put -/
theorem rx_up {B : Nat → Int} {N : Int} {m m1 w : Nat} {p o q1 e x : Int} {D D1 : List Int} {t u v : PS} (h : RSc B N m w p o D t) (hD : D1 = DL t) (h1 : RDc B N m1 q1 o D1 u e) (he : e ≠ 0) (hv : DL v = DL u ++ [x]) (hs : iI v 4 = iI u 4) (g : ∀ (a : List Int) (r r1 : Rd), PGR B N m1 [] q1 o r1 → r1.1 = 0 → PGR B N m (a ++ r1.2.1 ++ [x]) r1.2.2 o r → PGR B N m a (iI t 4) o r) : RSc B N m w p o D v := by
  obtain ⟨a, h2, h3⟩ := h
  obtain ⟨r, r1, r2 | r2⟩ := h1
  · obtain ⟨-, z, z1, z2⟩ := r2
    refine ⟨a ++ r.2.1 ++ [x], ?_, fun s hs' => h3 s (g a s r r1 z (by rw [← z1, ← hs]; exact hs'))⟩
    rw [hv, z2, hD, h2]
    simp only [List.append_assoc]
  · exact absurd r2.1 he
theorem rx_bad {B : Nat → Int} {N : Int} {m m1 w : Nat} {p o q1 e : Int} {D D1 : List Int} {t u v : PS} (h : RSc B N m w p o D t) (h1 : RDc B N m1 q1 o D1 u e) (he : e = 0) (hu : iI v 7 = iI u 7) (g : ∀ (a : List Int) (r : Rd), PGR B N m1 [] q1 o r → r.1 ≠ 0 → PGR B N m a (iI t 4) o r) : RDc B N w p o D v 0 := by
  obtain ⟨a, -, h3⟩ := h
  exact rd_bad h1 he hu (fun r hr hz => h3 r (g a r hr hz))
/-- a sign that is passed, or the fault -/
def PSS (B : Nat → Int) (N x : Int) (s t : PS) (e : Int) : Prop := (e = 1 ∧ chT B N (iI s 4) x ∧ iI t 4 = sk B N (iI s 4 + 1)) ∨ (e = 0 ∧ ¬ chT B N (iI s 4) x ∧ iI t 7 = 1)
/-- (sum) -/
theorem rd_par {B : Nat → Int} {N p o e2 e3 : Int} {D D1 : List Int} {t u v : PS} (hc : chT B N p 40) (ho : o < 6) (h1 : RDc B N 3 (sk B N (p + 1)) (o + 1) D1 t e2) (hD : D1 = D) (he : e2 ≠ 0) (h2 : PSS B N 41 t u e3) (hd : DL v = DL t) (hs : iI v 4 = iI u 4) (hf : iI v 7 = iI u 7) : RDc B N 0 p o D v e3 := by
  obtain ⟨r, r1, r2 | r2⟩ := h1
  · obtain ⟨-, z, z1, z2⟩ := r2
    rcases h2 with ⟨e, c, n⟩ | ⟨e, c, n⟩
    · rw [e]; rw [z1] at c n
      exact rd_ok (pu_py hc ho r1 z c) (by rw [hs, n]) (by rw [hd, z2, hD])
    · rw [e]; rw [z1] at c
      exact rd_no (pu_pn hc ho r1 z c) (by decide) (by rw [hf, n])
  · exact absurd r2.1 he
/-- [either] -/
theorem rd_brk {B : Nat → Int} {N p o e2 e3 : Int} {D D1 : List Int} {t u v : PS} (hw : whV B N p ≠ 10631) (hc : chT B N p 91) (ho : o < 6) (h1 : RDc B N 8 (sk B N (p + 1)) (o + 1) D1 t e2) (hD : D1 = D) (he : e2 ≠ 0) (h2 : PSS B N 93 t u e3) (hd : DL v = DL t) (hs : iI v 4 = iI u 4) (hf : iI v 7 = iI u 7) : RDc B N 5 p o D v e3 := by
  obtain ⟨r, r1, r2 | r2⟩ := h1
  · obtain ⟨-, z, z1, z2⟩ := r2
    rcases h2 with ⟨e, c, n⟩ | ⟨e, c, n⟩
    · rw [e]; rw [z1] at c n
      exact rd_ok (pt_by hw hc ho r1 z c) (by rw [hs, n]) (by rw [hd, z2, hD])
    · rw [e]; rw [z1] at c
      exact rd_no (pt_bn hw hc ho r1 z c) (by decide) (by rw [hf, n])
  · exact absurd r2.1 he
theorem rd_not {B : Nat → Int} {N p o e2 : Int} {D D1 : List Int} {t v : PS} (hw : whV B N p = 10631) (ho : o < 6) (h1 : RDc B N 5 (sk B N (wdE B N p)) (o + 1) D1 t e2) (hD : D1 = D) (he : e2 ≠ 0) (hd : DL v = DL t ++ [-8]) (hs : iI v 4 = iI t 4) : RDc B N 5 p o D v 1 := by
  obtain ⟨r, r1, r2 | r2⟩ := h1
  · obtain ⟨-, z, z1, z2⟩ := r2
    exact rd_ok (pt_ny hw ho r1 z) (by rw [hs, z1]) (by rw [hd, z2, hD, List.append_assoc])
  · exact absurd r2.1 he
/-- sum R sum: no R; the second one fails; all is read -/
theorem rd_sn {B : Nat → Int} {N p o e1 : Int} {D D1 : List Int} {t v : PS} (hw : whV B N p ≠ 10631) (hc : ¬ chT B N p 91) (h1 : RDc B N 3 p o D1 t e1) (he : e1 ≠ 0) (hr : ¬ rlT B N (iI t 4)) (hf : iI v 7 = 1) : RDc B N 5 p o D v 0 := by
  obtain ⟨r, r1, r2 | r2⟩ := h1
  · obtain ⟨-, z, z1, z2⟩ := r2
    rw [z1] at hr
    exact rd_no (pt_sn hw hc r1 z hr) (by decide) hf
  · exact absurd r2.1 he
theorem rd_s2 {B : Nat → Int} {N p o e1 e2 x : Int} {D D1 D2 : List Int} {t u v : PS} (hw : whV B N p ≠ 10631) (hc : ¬ chT B N p 91) (h1 : RDc B N 3 p o D1 t e1) (hD : D1 = D) (he : e1 ≠ 0) (hr : rlT B N (iI t 4)) (hx : x = opC B (iI t 4)) (h2 : RDc B N 3 (sk B N (iI t 4 + 1)) o D2 u e2) (hD2 : D2 = DL t) (hs : iI v 4 = iI u 4) (hf : iI v 7 = iI u 7) (hd : e2 ≠ 0 → DL v = DL u ++ [x]) : RDc B N 5 p o D v e2 := by
  obtain ⟨r, r1, r2 | r2⟩ := h1
  · obtain ⟨-, z, z1, z2⟩ := r2
    obtain ⟨q, q1, q2⟩ := h2
    rw [z1] at hr q1 hx
    refine ⟨_, pt_s2 hw hc r1 z hr q1 rfl, ?_⟩
    unfold bnd
    rcases q2 with ⟨y0, y, y1, y2⟩ | ⟨y0, y, y1⟩
    · rw [if_pos y]
      refine Or.inl ⟨y0, rfl, by rw [hs, y1], ?_⟩
      rw [hd (by omega), y2, hD2, z2, hD, hx]
      show D ++ r.2.1 ++ q.2.1 ++ [_] = D ++ (r.2.1 ++ q.2.1 ++ [_])
      simp only [List.append_assoc]
    · rw [if_neg y]
      exact Or.inr ⟨y0, y, by rw [hf, y1]⟩
  · exact absurd r2.1 he
/-- the lesser or the greater of two: no comma; the second one fails; the sign that shuts -/
theorem rd_tn {B : Nat → Int} {N p o e1 : Int} {D D1 : List Int} {t v : PS} (hd : ¬ dgP B N p) (hc : ¬ chT B N p 40) (hw : whV B N p = 6476969 ∨ whV B N p = 267347) (h : chT B N (sk B N (wdE B N p)) 40) (ho : o < 6) (h1 : RDc B N 3 (sk B N (sk B N (wdE B N p) + 1)) (o + 1) D1 t e1) (he : e1 ≠ 0) (hk : ¬ chT B N (iI t 4) 44) (hf : iI v 7 = 1) : RDc B N 0 p o D v 0 := by
  obtain ⟨r, r1, r2 | r2⟩ := h1
  · obtain ⟨-, z, z1, z2⟩ := r2
    rw [z1] at hk
    exact rd_no (pu_tn hd hc hw h ho r1 z hk) (by decide) hf
  · exact absurd r2.1 he
theorem rd_t2 {B : Nat → Int} {N p o e1 e2 e3 x : Int} {D D1 D2 : List Int} {t u y v : PS} (hd : ¬ dgP B N p) (hc : ¬ chT B N p 40) (hw : whV B N p = 6476969 ∨ whV B N p = 267347) (h : chT B N (sk B N (wdE B N p)) 40) (ho : o < 6) (h1 : RDc B N 3 (sk B N (sk B N (wdE B N p) + 1)) (o + 1) D1 t e1) (hD : D1 = D) (he : e1 ≠ 0) (hk : chT B N (iI t 4) 44) (h2 : RDc B N 3 (sk B N (iI t 4 + 1)) (o + 1) D2 u e2) (hD2 : D2 = DL t) (h3 : (e2 = 0 ∧ e3 = 0 ∧ iI v 7 = iI u 7) ∨ (e2 ≠ 0 ∧ PSS B N 41 u y e3 ∧ iI v 7 = iI y 7 ∧ iI v 4 = iI y 4 ∧ (e3 ≠ 0 → DL v = DL u ++ [x]))) (hx : x = if whV B N p = 6476969 then -13 else -14) : RDc B N 0 p o D v e3 := by
  obtain ⟨r, r1, r2 | r2⟩ := h1
  · obtain ⟨-, z, z1, z2⟩ := r2
    obtain ⟨q, q1, q2⟩ := h2
    rw [z1] at hk q1
    refine ⟨_, pu_t2 hd hc hw h ho r1 z hk q1 rfl, ?_⟩
    unfold bnd
    rcases q2 with ⟨y0, yy, y1, y2⟩ | ⟨y0, yy, y1⟩
    · rw [if_pos yy]
      rcases h3 with h3 | ⟨-, h3, h4, h5, h6⟩
      · omega
      · rcases h3 with ⟨k0, k1, k2⟩ | ⟨k0, k1, k2⟩
        · rw [y1] at k1 k2
          dsimp only
          rw [if_pos k1]
          refine Or.inl ⟨k0, rfl, by rw [h5, k2], ?_⟩
          rw [h6 (by omega), y2, hD2, z2, hD, hx]
          show D ++ r.2.1 ++ q.2.1 ++ [_] = D ++ (r.2.1 ++ q.2.1 ++ [_])
          simp only [List.append_assoc]
        · rw [y1] at k1
          dsimp only
          rw [if_neg k1]
          exact Or.inr ⟨k0, by show (1 : Int) ≠ 0; decide, by rw [h4, k2]⟩
    · rw [if_neg yy]
      rcases h3 with ⟨-, h3, h4⟩ | h3
      · exact Or.inr ⟨h3, yy, by rw [h4, y1]⟩
      · exact absurd y0 h3.1
  · exact absurd r2.1 he
theorem rx_mv {B : Nat → Int} {N : Int} {m w : Nat} {p o : Int} {D : List Int} {t u : PS} (h : RSc B N m w p o D t) (h1 : DL u = DL t) (h2 : iI u 4 = iI t 4) : RSc B N m w p o D u := by
  obtain ⟨a, h3, h4⟩ := h
  exact ⟨a, h1.trans h3, fun r hr => h4 r (by rw [← h2]; exact hr)⟩
theorem pss_gt {B : Nat → Int} {N x e : Int} {s t : PS} (h : PSS B N x s t e) (he : e ≠ 0) : iI s 4 < iI t 4 ∧ iI t 4 ≤ N := by
  rcases h with ⟨h0, h1, h2⟩ | h
  · have z := sk_le (B := B) (N := N) (p := iI s 4 + 1)
    have y := sk_N (B := B) (N := N) (p := iI s 4 + 1) (by have := h1.1; omega)
    omega
  · exact absurd h.1 he
/-- the class's text: bytes B, N of them, with words; its sign -/
def BYW (B : Nat → Int) (N : Int) (s : PS) : Prop := (∀ i : Nat, i < 200 → iC s 0 i = B i) ∧ iI s 1 = N ∧ iI s 3 = 1
theorem BYW_fm {L M : List Nat} {s t : PS} {B : Nat → Int} {N : Int} (F : Fm L M s t) (h : 1 ∉ L ∧ 3 ∉ L ∧ 0 ∉ M) (r : BYW B N s) : BYW B N t := ⟨fun i hi => (fm_c F h.2.2).trans (r.1 i hi), (fm_i F h.1).trans r.2.1, (fm_i F h.2.1).trans r.2.2⟩
def TKS (B : Nat → Int) (N : Int) (t : PS) : Prop := TKW B N (iI t 5) (iI t 4) (iI t 2) (iI t 6)
theorem TKS_fm {L M : List Nat} {s t : PS} {B : Nat → Int} {N : Int} (F : Fm L M s t) (h : 5 ∉ L ∧ 4 ∉ L ∧ 2 ∉ L ∧ 6 ∉ L) (r : TKS B N s) : TKS B N t := by
  unfold TKS
  rw [fm_i F h.1, fm_i F h.2.1, fm_i F h.2.2.1, fm_i F h.2.2.2]
  exact r
/-- a constant text whose letters are L -/
def StrL (s0 : State) (q : Nat) (L : List Nat) : Prop := ∃ v : Nat, va_O "java/lang/String" q (mb_F s0) s0 s0.heap ∧ va_OF "java/lang/String" "coder" "B" (.int (Int32.ofInt 0)) q (mb_F s0) s0 s0.heap ∧ va_OF "java/lang/String" "value" "[B" (.ref v) q (mb_F s0) s0 s0.heap ∧ va_T .byte v L.length (fun j => .int (Int32.ofInt (L.getD j 0 : Nat))) (mb_F s0) s0 s0.heap
theorem okL_all {L : List Nat} (h : okL L = true) : 1 ≤ L.length ∧ L.length ≤ 6 ∧ ∀ j : Nat, (L.getD j 0) ≤ 127 := by
  unfold okL at h
  simp only [Bool.and_eq_true, decide_eq_true_eq, List.all_eq_true] at h
  refine ⟨h.1.1, h.1.2, fun j => ?_⟩
  rcases getD_mem (l := L) (j := j) (d := 0) with q | q
  · rw [q]; decide
  · have := (h.2 _ q).2; omega
theorem strL_A {s0 : State} {q : Nat} {L : List Nat} (h : StrL s0 q L) (hL : okL L = true) : StrA s0 q L.length := by
  obtain ⟨v, h1, h2, h3, h4⟩ := h
  have o := okL_all hL
  exact ⟨v, fun j => (L.getD j 0 : Nat), o.2.1, fun j => (show 0 ≤ ((L.getD j 0 : Nat) : Int) ∧ ((L.getD j 0 : Nat) : Int) ≤ 127 from ⟨by omega, by have := o.2.2 j; omega⟩), h1, h2, h3, h4⟩
def txW : List (Nat × List Nat) := [(74, [108, 111, 97, 100]), (80, [106, 111, 105, 110]), (101, [111, 114]), (109, [97, 110, 100]), (111, [110, 111, 116]), (125, [108, 101, 97, 115, 116]), (127, [109, 111, 115, 116]), (136, [119, 97, 121, 115]), (138, [99, 114, 111, 115, 115]), (140, [111, 118, 101, 114]), (142, [99, 108, 105, 109, 98]), (144, [99, 101, 108, 108, 115]), (146, [108, 111, 119]), (148, [112, 105, 101, 99, 101, 115])]
def TXw0 (s0 : State) : Prop := ∀ p ∈ txW, ∃ (t : String) (q : Nat), vk_R RX7 p.1 t q s0 ∧ StrL s0 q p.2
theorem rd_post {B : Nat → Int} {N : Int} {m : Nat} {o e : Int} {s t : PS} (h : RDc B N m (iI s 4) o (DL s) t e) (hm : rsB m [] = 0) (hp : iI s 4 ≤ N) (h0 : 0 ≤ iI s 16) (h1 : 0 ≤ iI t 16) (ho : e ≠ 0 → iI t 19 = iI s 19) : e = 0 ∨ (e = 1 ∧ iI t 19 = iI s 19 ∧ iI s 4 ≤ iI t 4 ∧ iI t 4 ≤ N ∧ iI t 16 + iI s 4 ≤ iI s 16 + iI t 4) := by
  by_cases q : e = 0
  · exact Or.inl q
  · have z := rd_num h q hp hm h1
    have l := DL_len h0
    exact Or.inr ⟨z.1, ho q, z.2.1, z.2.2.1, by omega⟩
theorem whL_pos {L : List Nat} (h : okL L = true) : whL L 0 ≠ 0 := fun q => by
  have o := okL_all h
  have z := (wh_is (B := fun _ => 0) (N := 0) (p := 0) h).mp (by rw [q]; unfold whV; rw [wd_stop (Or.inl (Int.le_refl _)), if_pos (by decide)]; rfl)
  rw [wd_stop (Or.inl (Int.le_refl _))] at z
  omega
section ZK3
variable {k : kx_T} {mn pc : Nat} {dT : Nat → ClassId} {lv : List (Nat × Value)} {st : List Value} {ws : va_W} {ce sl : Nat}
theorem w_tbK3 (X : AX k mn dT) {t N : Nat} {g0 : Nat → Int} {i : Int} (hT : va_T .byte t N (fun j => .int (Int32.ofInt (g0 j))) (mb_F (kS0 k)) (kS0 k) (kS0 k).heap) (hi : 0 ≤ i ∧ i < (N : Int)) (hN : N ≤ 6) (dd : decode (kCc k) pc = .ok (.baload, 1)) (g : WS k (pc + 1) lv (.int (Int32.ofInt (g0 i.toNat)) :: st) ws ce sl) : WS k pc lv (.int (Int32.ofInt i) :: .ref t :: st) ws ce sl := by
  intro H locs ls hP hD hS hlv
  have hin : vp_in (Int32.ofInt i) N := by
    rw [on_of hi.1]
    exact on_in (by omega) (by omega)
  have e : (Int32.ofInt i).toNatClampNeg = i.toNat := by rw [on_of hi.1]; exact on_cl (by omega)
  refine va_tb (v := .int (Int32.ofInt (g0 (Int32.ofInt i).toNatClampNeg))) X.1.1 X.1.2.1 (kx_T0 X.1 hT) hS hin rfl dd ?_
  rw [e]
  exact g H locs ls hP hD hS hlv
end ZK3
theorem sy_no {B : Nat → Int} {N k st a v : Int} {L : List Nat} (h : TKW B N k st a v) (hL : okL L = true) (h1 : k ≠ -3 ∨ a - st ≠ (L.length : Int)) : whV B N st ≠ whL L 0 := fun q => by
  by_cases c : k = -3
  · have z := (wh_is hL).mp q
    have y := (tkw_wd h).1 c
    rcases h1 with h1 | h1
    · exact h1 c
    · rw [y.1] at h1; exact h1 z.1
  · rw [(tkw_wd h).2 c] at q
    exact whL_pos hL q.symm
theorem sy_ne {B : Nat → Int} {N st : Int} {L : List Nat} (hL : okL L = true) {c : Int} (h0 : 0 ≤ c) (h1 : c < (L.length : Int)) (h2 : B (st + c).toNat ≠ (L.getD c.toNat 0 : Nat)) : whV B N st ≠ whL L 0 := fun q => h2 (by
  have z := ((wh_is hL).mp q).2 c.toNat (by omega)
  rw [show ((c.toNat : Nat) : Int) = c by omega] at z
  exact z)
theorem sy_yes {B : Nat → Int} {N k st a v : Int} {L : List Nat} (h : TKW B N k st a v) (hL : okL L = true) (hk : k = -3) (h1 : a - st = (L.length : Int)) {c : Int} (hc : (L.length : Int) ≤ c) (h2 : ∀ i : Nat, (i : Int) < c → B (st + i).toNat = (L.getD i 0 : Nat)) : whV B N st = whL L 0 := by
  refine (wh_is hL).mpr ⟨?_, fun i hi => h2 i (by omega)⟩
  rw [← ((tkw_wd h).1 hk).1]; exact h1
theorem sy_up {B : Nat → Int} {st c : Int} {L : List Nat} (h0 : 0 ≤ c) (h : ∀ i : Nat, (i : Int) < c → B (st + i).toNat = (L.getD i 0 : Nat)) (h1 : B (st + c).toNat = (L.getD c.toNat 0 : Nat)) : ∀ i : Nat, (i : Int) < c + 1 → B (st + i).toNat = (L.getD i 0 : Nat) := fun i hi => by
  by_cases q : (i : Int) = c
  · rw [q, h1, show c.toNat = i by omega]
  · exact h i (by omega)
section M87h
variable {l : Launch} {s0 : State} {D : va_G} {tys : List (ClassId × FieldType)} {a0 : Array Value} {A : Nat → Nat} {dT : Nat → ClassId} {s : PS}
set_option maxRecDepth 4000 in
theorem c10_kindOf3 (G : GX l s0 D tys a0 dT) (I : Bd s) {x : Int} (p0 : 0 ≤ x ∧ x ≤ 255) (p1 : iI s 3 = 1) : CT l s0 D A dT 130 (rmN 130) [.ref (A 1), .int (Int32.ofInt x)] s (fun o t => s = t ∧ ∃ e, o = .inl (some (.int (Int32.ofInt e))) ∧ rng e ∧ ((48 ≤ x ∧ x ≤ 57 ∧ e = -2) ∨ (97 ≤ x ∧ x ≤ 122 ∧ e = -3) ∨ ((x < 48 ∨ 57 < x) ∧ (x < 97 ∨ 122 < x) ∧ e = x))) := by
  refine ct_ofX G (by decide) (Nat.le_of_ble_eq_true rfl) (fun k X E ET hRt hXt q => ?_)
  show WS k 0 [(0, .ref (A 1)), (1, .int (Int32.ofInt x))] [] _ 0 0
  have F : Fm [] [] s s := fm_rf _ _ s
  refine z_load_n X (x := x) (show cdA 130 0 = some (.iload_n 1, 1, 0, 0, 0) from rfl) (List.Mem.tail _ (List.Mem.head _)) ?_
  refine z_bipush X (show cdA 130 1 = some (.bipush 48, 2, 0, 0, 48) from rfl) ?_
  refine z_icmp_lt X (t := 15) (show cdA 130 3 = some (.if_icmp .lt 12, 3, 2, 0, 0) from rfl) (by decide) ⟨by first | exact oq_fa4e5087 p0.1 | omega, by first | exact oq_4567a937 p0.2 | omega⟩ (by decide) (fun g1 => ?_) (fun g1 => ?_)
  ·
    refine z_aload_n X (x := A 1) (show cdA 130 15 = some (.aload_n 0, 1, 0, 0, 0) from rfl) (List.Mem.head _) ?_
    refine z_getI X 1 (show cdA 130 16 = some (.getfield 32, 3, 10, 4, 0) from rfl) (by decide) rfl rfl ?_
    have b2 : (0 : Int) ≤ iI s 3 ∧ iI s 3 ≤ 1 := I.1 3
    have N3 : ∀ e4 : Int, ((((iI s 3) = 0) ∧ e4 = x) ∨ (((iI s 3) ≠ 0) ∧ (x < 97) ∧ e4 = x) ∨ (((iI s 3) ≠ 0) ∧ (97 ≤ x) ∧ (122 < x) ∧ e4 = x) ∨ (((iI s 3) ≠ 0) ∧ (97 ≤ x) ∧ (x ≤ 122) ∧ e4 = (-3))) → WS k 40 [(0, .ref (A 1)), (1, .int (Int32.ofInt x))] [.int (Int32.ofInt e4)] (Wd A dT s) 0 0 := by
      intro e4 he4
      exact w_iret X.1 q hRt rfl (ax_d X (show cdA 130 40 = some (.ireturn, 1, 0, 0, 0) from rfl)) (Nat.zero_le _) (Nat.zero_le _) ⟨_, rfl, rfl, e4, rfl, ⟨by first | exact oq_1ca04d49 he4 p0.1 | omega, by first | exact oq_6ba7703b he4 g1 | omega⟩, by first | exact oq_207bd060 he4 g1 | omega⟩
    refine z_if_eq X (t := 39) (show cdA 130 19 = some (.ifCond .eq 20, 3, 0, 0, 0) from rfl) (by decide) (rng_to _) (fun g5 => ?_) (fun g5 => ?_)
    ·
      refine z_load_n X (x := x) (show cdA 130 39 = some (.iload_n 1, 1, 0, 0, 0) from rfl) (List.Mem.tail _ (List.Mem.head _)) ?_
      exact N3 _ (Or.inl ⟨g5, rfl⟩)
    ·
      refine z_load_n X (x := x) (show cdA 130 22 = some (.iload_n 1, 1, 0, 0, 0) from rfl) (List.Mem.tail _ (List.Mem.head _)) ?_
      refine z_bipush X (show cdA 130 23 = some (.bipush 97, 2, 0, 0, 97) from rfl) ?_
      refine z_icmp_lt X (t := 39) (show cdA 130 25 = some (.if_icmp .lt 14, 3, 2, 0, 0) from rfl) (by decide) ⟨by first | exact oq_fa4e5087 p0.1 | omega, by first | exact oq_a6687a98 g1 | omega⟩ (by decide) (fun g6 => ?_) (fun g6 => ?_)
      ·
        refine z_load_n X (x := x) (show cdA 130 39 = some (.iload_n 1, 1, 0, 0, 0) from rfl) (List.Mem.tail _ (List.Mem.head _)) ?_
        exact N3 _ (Or.inr (Or.inl ⟨g5, g6, rfl⟩))
      ·
        refine z_load_n X (x := x) (show cdA 130 28 = some (.iload_n 1, 1, 0, 0, 0) from rfl) (List.Mem.tail _ (List.Mem.head _)) ?_
        refine z_bipush X (show cdA 130 29 = some (.bipush 122, 2, 0, 0, 122) from rfl) ?_
        refine z_icmp_gt X (t := 39) (show cdA 130 31 = some (.if_icmp .gt 8, 3, 4, 0, 0) from rfl) (by decide) ⟨by first | exact oq_9ccaf4ac g6 | omega, by first | exact oq_a6687a98 g1 | omega⟩ (by decide) (fun g7 => ?_) (fun g7 => ?_)
        ·
          refine z_load_n X (x := x) (show cdA 130 39 = some (.iload_n 1, 1, 0, 0, 0) from rfl) (List.Mem.tail _ (List.Mem.head _)) ?_
          exact N3 _ (Or.inr (Or.inr (Or.inl ⟨g5, g6, g7, rfl⟩)))
        ·
          refine z_bipush X (show cdA 130 34 = some (.bipush (-3), 2, 0, 0, (-3)) from rfl) ?_
          refine z_goto X (t := 40) (show cdA 130 36 = some (.goto 4, 3, 0, 0, 0) from rfl) (by decide) ?_
          exact N3 _ (Or.inr (Or.inr (Or.inr (⟨g5, g6, g7, rfl⟩))))
  ·
    refine z_load_n X (x := x) (show cdA 130 6 = some (.iload_n 1, 1, 0, 0, 0) from rfl) (List.Mem.tail _ (List.Mem.head _)) ?_
    refine z_bipush X (show cdA 130 7 = some (.bipush 57, 2, 0, 0, 57) from rfl) ?_
    refine z_icmp_gt X (t := 15) (show cdA 130 9 = some (.if_icmp .gt 6, 3, 4, 0, 0) from rfl) (by decide) ⟨by first | exact oq_7e4cb212 g1 | omega, by first | exact oq_4567a937 p0.2 | omega⟩ (by decide) (fun g8 => ?_) (fun g8 => ?_)
    ·
      refine z_aload_n X (x := A 1) (show cdA 130 15 = some (.aload_n 0, 1, 0, 0, 0) from rfl) (List.Mem.head _) ?_
      refine z_getI X 1 (show cdA 130 16 = some (.getfield 32, 3, 10, 4, 0) from rfl) (by decide) rfl rfl ?_
      have b9 : (0 : Int) ≤ iI s 3 ∧ iI s 3 ≤ 1 := I.1 3
      have N10 : ∀ e11 : Int, ((((iI s 3) = 0) ∧ e11 = x) ∨ (((iI s 3) ≠ 0) ∧ (x < 97) ∧ e11 = x) ∨ (((iI s 3) ≠ 0) ∧ (97 ≤ x) ∧ (122 < x) ∧ e11 = x) ∨ (((iI s 3) ≠ 0) ∧ (97 ≤ x) ∧ (x ≤ 122) ∧ e11 = (-3))) → WS k 40 [(0, .ref (A 1)), (1, .int (Int32.ofInt x))] [.int (Int32.ofInt e11)] (Wd A dT s) 0 0 := by
        intro e11 he11
        exact w_iret X.1 q hRt rfl (ax_d X (show cdA 130 40 = some (.ireturn, 1, 0, 0, 0) from rfl)) (Nat.zero_le _) (Nat.zero_le _) ⟨_, rfl, rfl, e11, rfl, ⟨by first | exact oq_3fba5eee he11 g8 | omega, by first | exact oq_fc94949b he11 p0.2 | omega⟩, by first | exact oq_1b35d216 he11 g8 p1 | omega⟩
      refine z_if_eq X (t := 39) (show cdA 130 19 = some (.ifCond .eq 20, 3, 0, 0, 0) from rfl) (by decide) (rng_to _) (fun g12 => ?_) (fun g12 => ?_)
      ·
        refine z_load_n X (x := x) (show cdA 130 39 = some (.iload_n 1, 1, 0, 0, 0) from rfl) (List.Mem.tail _ (List.Mem.head _)) ?_
        exact N10 _ (Or.inl ⟨g12, rfl⟩)
      ·
        refine z_load_n X (x := x) (show cdA 130 22 = some (.iload_n 1, 1, 0, 0, 0) from rfl) (List.Mem.tail _ (List.Mem.head _)) ?_
        refine z_bipush X (show cdA 130 23 = some (.bipush 97, 2, 0, 0, 97) from rfl) ?_
        refine z_icmp_lt X (t := 39) (show cdA 130 25 = some (.if_icmp .lt 14, 3, 2, 0, 0) from rfl) (by decide) ⟨by first | exact oq_eac89bd5 g8 | omega, by first | exact oq_4567a937 p0.2 | omega⟩ (by decide) (fun g13 => ?_) (fun g13 => ?_)
        ·
          refine z_load_n X (x := x) (show cdA 130 39 = some (.iload_n 1, 1, 0, 0, 0) from rfl) (List.Mem.tail _ (List.Mem.head _)) ?_
          exact N10 _ (Or.inr (Or.inl ⟨g12, g13, rfl⟩))
        ·
          refine z_load_n X (x := x) (show cdA 130 28 = some (.iload_n 1, 1, 0, 0, 0) from rfl) (List.Mem.tail _ (List.Mem.head _)) ?_
          refine z_bipush X (show cdA 130 29 = some (.bipush 122, 2, 0, 0, 122) from rfl) ?_
          refine z_icmp_gt X (t := 39) (show cdA 130 31 = some (.if_icmp .gt 8, 3, 4, 0, 0) from rfl) (by decide) ⟨by first | exact oq_9ccaf4ac g13 | omega, by first | exact oq_4567a937 p0.2 | omega⟩ (by decide) (fun g14 => ?_) (fun g14 => ?_)
          ·
            refine z_load_n X (x := x) (show cdA 130 39 = some (.iload_n 1, 1, 0, 0, 0) from rfl) (List.Mem.tail _ (List.Mem.head _)) ?_
            exact N10 _ (Or.inr (Or.inr (Or.inl ⟨g12, g13, g14, rfl⟩)))
          ·
            refine z_bipush X (show cdA 130 34 = some (.bipush (-3), 2, 0, 0, (-3)) from rfl) ?_
            refine z_goto X (t := 40) (show cdA 130 36 = some (.goto 4, 3, 0, 0, 0) from rfl) (by decide) ?_
            exact N10 _ (Or.inr (Or.inr (Or.inr (⟨g12, g13, g14, rfl⟩))))
    ·
      refine z_bipush X (show cdA 130 12 = some (.bipush (-2), 2, 0, 0, (-2)) from rfl) ?_
      exact w_iret X.1 q hRt rfl (ax_d X (show cdA 130 14 = some (.ireturn, 1, 0, 0, 0) from rfl)) (Nat.zero_le _) (Nat.zero_le _) ⟨_, rfl, rfl, (-2), rfl, (by decide), by first | exact Or.inl (And.intro (g1) (And.intro (g8) (by decide))) | omega⟩
set_option maxRecDepth 4000 in
theorem c10_step3 (G : GX l s0 D tys a0 dT) {B : Nat → Int} {N : Int} (I : Bd s) (jBYW : BYW B N s) (p0 : iI s 2 ≤ iI s 1) : CT l s0 D A dT 129 (rmN 129) [.ref (A 1)] s (fun o t => Bd t ∧ Fm [2, 4, 6, 5] [] s t ∧ BYW B N t ∧ TKS B N t ∧ o = .inl none ∧ (iI t 2 ≤ iI t 1 ∧ iI t 4 ≤ iI t 2 ∧ iI t 4 = sk B N (iI s 2) ∧ iI s 2 ≤ iI t 4)) := by
  refine ct_ofX G (by decide) (Nat.le_of_ble_eq_true rfl) (fun k X E ET hRt hXt q => ?_)
  show WS k 0 [(0, .ref (A 1))] [] _ 0 0
  have F : Fm [2, 4, 6, 5] [] s s := fm_rf _ _ s
  have hN := jBYW.2.1
  have hW := jBYW.2.2
  have hskl := sk_le (B := B) (N := N) (p := iI s 2)
  have b1 : (0 : Int) ≤ iI s 2 ∧ iI s 2 ≤ 200 := I.1 2
  have b2 : (0 : Int) ≤ iI s 1 ∧ iI s 1 ≤ 200 := I.1 1
  have b3 : (0 : Int) ≤ iI s 4 ∧ iI s 4 ≤ 200 := I.1 4
  have b4 : ((-3) : Int) ≤ iI s 5 ∧ iI s 5 ≤ 255 := I.1 5
  have b5 : (0 : Int) ≤ iI s 6 ∧ iI s 6 ≤ 100000 := I.1 6
  have b6 : (0 : Int) ≤ iI s 3 ∧ iI s 3 ≤ 1 := I.1 3
  have L0 : ∀ (n : Nat) (t : PS), Bd t → Fm [2, 4, 6, 5] [] s t → BYW B N t → (sk B N (iI t 2) = sk B N (iI s 2)) → (iI t 2 ≤ iI t 1) → (iI t 1 - iI t 2 : Int).toNat < n → (∀ (t' : PS), Bd t' → Fm [2, 4, 6, 5] [] s t' → BYW B N t' → (sk B N (iI s 2) = iI t' 2) → (iI t' 2 ≤ iI t' 1) → WS k 38 [(0, .ref (A 1))] [] (Wd A dT t') 0 0) → WS k 0 [(0, .ref (A 1))] [] (Wd A dT t) 0 0 := by
    intro n
    induction n with
    | zero =>
      intro t  I F jjBYW hq hi hm kx
      exact absurd hm (Nat.not_lt_zero _)
    | succ n ih =>
      intro t  I F jjBYW hq hi hm kx
      have b1001 : (0 : Int) ≤ iI t 2 ∧ iI t 2 ≤ 200 := I.1 2
      have b1002 : (0 : Int) ≤ iI t 1 ∧ iI t 1 ≤ 200 := I.1 1
      have b1003 : (0 : Int) ≤ iI t 4 ∧ iI t 4 ≤ 200 := I.1 4
      have b1004 : ((-3) : Int) ≤ iI t 5 ∧ iI t 5 ≤ 255 := I.1 5
      have b1005 : (0 : Int) ≤ iI t 6 ∧ iI t 6 ≤ 100000 := I.1 6
      have b1006 : (0 : Int) ≤ iI t 3 ∧ iI t 3 ≤ 1 := I.1 3
      have hN := jjBYW.2.1
      have hW := jjBYW.2.2
      refine z_aload_n X (x := A 1) (show cdA 129 0 = some (.aload_n 0, 1, 0, 0, 0) from rfl) (List.Mem.head _) ?_
      refine z_getI X 1 (show cdA 129 1 = some (.getfield 29, 3, 10, 3, 0) from rfl) (by decide) rfl rfl ?_
      have b1007 : (0 : Int) ≤ iI t 2 ∧ iI t 2 ≤ 200 := I.1 2
      refine z_aload_n X (x := A 1) (show cdA 129 4 = some (.aload_n 0, 1, 0, 0, 0) from rfl) (List.Mem.head _) ?_
      refine z_getI X 1 (show cdA 129 5 = some (.getfield 26, 3, 10, 2, 0) from rfl) (by decide) rfl rfl ?_
      have b1008 : (0 : Int) ≤ iI t 1 ∧ iI t 1 ≤ 200 := I.1 1
      refine z_icmp_ge X (t := 38) (show cdA 129 8 = some (.if_icmp .ge 30, 3, 3, 0, 0) from rfl) (by decide) (rng_to _) (rng_to _) (fun g1009 => ?_) (fun g1009 => ?_)
      ·
        refine WS_lv (lv := [(0, .ref (A 1))]) (List.forall_mem_cons.mpr ⟨(List.Mem.head _), (fun q h => absurd h List.not_mem_nil)⟩) ?_
        exact kx _  I F jjBYW (hq.symm.trans (sk_stop (by omega))) (by first | exact hi | omega)
      ·
        refine z_aload_n X (x := A 1) (show cdA 129 11 = some (.aload_n 0, 1, 0, 0, 0) from rfl) (List.Mem.head _) ?_
        refine s_getR X 1 (show cdA 129 12 = some (.getfield 11, 3, 10, 0, 0) from rfl) (by decide) rfl rfl ?_
        refine z_aload_n X (x := A 1) (show cdA 129 15 = some (.aload_n 0, 1, 0, 0, 0) from rfl) (List.Mem.head _) ?_
        refine z_getI X 1 (show cdA 129 16 = some (.getfield 29, 3, 10, 3, 0) from rfl) (by decide) rfl rfl ?_
        have b1010 : (0 : Int) ≤ iI t 2 ∧ iI t 2 ≤ 200 := I.1 2
        refine z_ald X 2 (show cdA 129 19 = some (.iaload, 1, 0, 0, 0) from rfl) (by decide) rfl (by first | exact b1010.1 | omega) (show (iI t 2) < 200 by first | exact oq_6fca3d72 g1009 b1008.2 | omega) (by decide) ?_
        have b1011 : (0 : Int) ≤ iC t 0 ((iI t 2)).toNat ∧ iC t 0 ((iI t 2)).toNat ≤ 255 := I.2 0 _ (show ((iI t 2)).toNat < 200 by first | exact oq_b70289d5 g1009 b1008.2 | omega)
        have fb1012 : iC t 0 ((iI t 2)).toNat = B ((iI t 2)).toNat := jjBYW.1 _ (by omega)
        refine z_bipush X (show cdA 129 20 = some (.bipush 32, 2, 0, 0, 32) from rfl) ?_
        refine z_icmp_ne X (t := 38) (show cdA 129 22 = some (.if_icmp .ne 16, 3, 1, 0, 0) from rfl) (by decide) (rng_to _) (by decide) (fun g1013 => ?_) (fun g1013 => ?_)
        ·
          refine WS_lv (lv := [(0, .ref (A 1))]) (List.forall_mem_cons.mpr ⟨(List.Mem.head _), (fun q h => absurd h List.not_mem_nil)⟩) ?_
          exact kx _  I F jjBYW (hq.symm.trans (sk_stop (by omega))) (by first | exact hi | omega)
        ·
          refine z_aload_n X (x := A 1) (show cdA 129 25 = some (.aload_n 0, 1, 0, 0, 0) from rfl) (List.Mem.head _) ?_
          refine w_dup X.1 (ax_d X (show cdA 129 26 = some (.dup, 1, 0, 0, 0) from rfl)) rfl ?_
          refine z_getI X 1 (show cdA 129 27 = some (.getfield 29, 3, 10, 3, 0) from rfl) (by decide) rfl rfl ?_
          have b1014 : (0 : Int) ≤ iI t 2 ∧ iI t 2 ≤ 200 := I.1 2
          refine z_const X (show cdA 129 30 = some (.iconst 1, 1, 0, 0, 0) from rfl) ?_
          refine z_add X (show cdA 129 31 = some (.iadd, 1, 0, 0, 0) from rfl) ?_
          refine s_putI X 1 (show cdA 129 32 = some (.putfield 29, 3, 10, 3, 0) from rfl) (by decide) rfl rfl (by decide) rfl rfl rfl ?_
          obtain ⟨s1015, hs1015⟩ : ∃ x0, x0 = uI t 2 (Int32.ofInt ((iI t 2) + 1)) := ⟨_, rfl⟩
          rw [← hs1015]
          have Is1015 : Bd s1015 := by rw [hs1015]; exact bd_I I (show (0 : Int) ≤ ((iI t 2) + 1) ∧ ((iI t 2) + 1) ≤ 200 by first | exact ⟨oq_54f49eb5 b1014.1, oq_228270fa g1009 b1008.2⟩ | omega) ⟨by first | exact oq_74de1e16 b1014.1 | omega, by first | exact oq_bb8d498d b1014.2 | omega⟩
          have Fs1015 := fm_I (x := Int32.ofInt ((iI t 2) + 1)) F (show 2 ∈ _ by decide)
          rw [← hs1015] at Fs1015
          have vs1015 : iI s1015 2 = ((iI t 2) + 1) := by rw [hs1015]; exact iI_u ⟨by first | exact oq_74de1e16 b1014.1 | omega, by first | exact oq_bb8d498d b1014.2 | omega⟩
          have ws1015_1 : iI s1015 1 = iI t 1 := by rw [hs1015]; rfl
          have ws1015_4 : iI s1015 4 = iI t 4 := by rw [hs1015]; rfl
          have ws1015_5 : iI s1015 5 = iI t 5 := by rw [hs1015]; rfl
          have ws1015_6 : iI s1015 6 = iI t 6 := by rw [hs1015]; rfl
          have ws1015_3 : iI s1015 3 = iI t 3 := by rw [hs1015]; rfl
          have fs1015 : Fm [2] [] t s1015 := by rw [hs1015]; exact fm_I (fm_rf _ _ _) (show 2 ∈ _ by decide)
          have JBYW_s1015 : BYW B N s1015 := BYW_fm fs1015 (by decide) jjBYW
          refine z_goto X (t := 0) (show cdA 129 35 = some (.goto (-35), 3, 0, 0, 0) from rfl) (by decide) ?_
          refine WS_lv (lv := [(0, .ref (A 1))]) (List.forall_mem_cons.mpr ⟨(List.Mem.head _), (fun q h => absurd h List.not_mem_nil)⟩) ?_
          exact ih _  Is1015 Fs1015 JBYW_s1015 (by rw [vs1015, ← sk_blank (by omega) (by omega)]; exact hq) (by first | exact oq_61bfd4fa ws1015_1 vs1015 g1009 | omega) (by first | exact qk_me hm (oq_bf2569a2 ws1015_1 vs1015) (oq_901836cd g1009) | omega) kx
  have L92 : ∀ (n : Nat) (t : PS), Bd t → Fm [2, 4, 6, 5] [] s t → BYW B N t → (nmV B N (iI t 2) (iI t 6) = nmV B N (sk B N (iI s 2)) 0 ∧ nmE B N (iI t 2) (iI t 6) = nmE B N (sk B N (iI s 2)) 0) → (iI t 2 ≤ iI t 1 ∧ iI t 4 ≤ iI t 2 ∧ iI t 4 = sk B N (iI s 2) ∧ iI t 5 = -2) → (iI t 1 - iI t 2 : Int).toNat < n → (∀ (t' : PS), Bd t' → Fm [2, 4, 6, 5] [] s t' → BYW B N t' → (iI t' 6 = nmV B N (sk B N (iI s 2)) 0 ∧ iI t' 2 = nmE B N (sk B N (iI s 2)) 0) → (iI t' 2 ≤ iI t' 1 ∧ iI t' 4 ≤ iI t' 2 ∧ iI t' 4 = sk B N (iI s 2) ∧ iI t' 5 = -2) → WS k 232 [(0, .ref (A 1))] [] (Wd A dT t') 0 0) → WS k 92 [(0, .ref (A 1))] [] (Wd A dT t) 0 0 := by
    intro n
    induction n with
    | zero =>
      intro t  I F jjBYW hq hi hm kx
      exact absurd hm (Nat.not_lt_zero _)
    | succ n ih =>
      intro t  I F jjBYW hq hi hm kx
      have b2001 : (0 : Int) ≤ iI t 2 ∧ iI t 2 ≤ 200 := I.1 2
      have b2002 : (0 : Int) ≤ iI t 1 ∧ iI t 1 ≤ 200 := I.1 1
      have b2003 : (0 : Int) ≤ iI t 4 ∧ iI t 4 ≤ 200 := I.1 4
      have b2004 : ((-3) : Int) ≤ iI t 5 ∧ iI t 5 ≤ 255 := I.1 5
      have b2005 : (0 : Int) ≤ iI t 6 ∧ iI t 6 ≤ 100000 := I.1 6
      have b2006 : (0 : Int) ≤ iI t 3 ∧ iI t 3 ≤ 1 := I.1 3
      have hN := jjBYW.2.1
      have hW := jjBYW.2.2
      refine z_aload_n X (x := A 1) (show cdA 129 92 = some (.aload_n 0, 1, 0, 0, 0) from rfl) (List.Mem.head _) ?_
      refine z_getI X 1 (show cdA 129 93 = some (.getfield 29, 3, 10, 3, 0) from rfl) (by decide) rfl rfl ?_
      have b2007 : (0 : Int) ≤ iI t 2 ∧ iI t 2 ≤ 200 := I.1 2
      refine z_aload_n X (x := A 1) (show cdA 129 96 = some (.aload_n 0, 1, 0, 0, 0) from rfl) (List.Mem.head _) ?_
      refine z_getI X 1 (show cdA 129 97 = some (.getfield 26, 3, 10, 2, 0) from rfl) (by decide) rfl rfl ?_
      have b2008 : (0 : Int) ≤ iI t 1 ∧ iI t 1 ≤ 200 := I.1 1
      refine z_icmp_ge X (t := 232) (show cdA 129 100 = some (.if_icmp .ge 132, 3, 3, 0, 0) from rfl) (by decide) (rng_to _) (rng_to _) (fun g2009 => ?_) (fun g2009 => ?_)
      ·
        refine WS_lv (lv := [(0, .ref (A 1))]) (List.forall_mem_cons.mpr ⟨(List.Mem.head _), (fun q h => absurd h List.not_mem_nil)⟩) ?_
        exact kx _  I F jjBYW ⟨(nmV_stop (by omega)).symm.trans hq.1, (nmE_stop (by omega)).symm.trans hq.2⟩ (by first | exact ⟨hi.1, hi.2.1, hi.2.2.1, hi.2.2.2⟩ | omega)
      ·
        refine z_aload_n X (x := A 1) (show cdA 129 103 = some (.aload_n 0, 1, 0, 0, 0) from rfl) (List.Mem.head _) ?_
        refine z_aload_n X (x := A 1) (show cdA 129 104 = some (.aload_n 0, 1, 0, 0, 0) from rfl) (List.Mem.head _) ?_
        refine s_getR X 1 (show cdA 129 105 = some (.getfield 11, 3, 10, 0, 0) from rfl) (by decide) rfl rfl ?_
        refine z_aload_n X (x := A 1) (show cdA 129 108 = some (.aload_n 0, 1, 0, 0, 0) from rfl) (List.Mem.head _) ?_
        refine z_getI X 1 (show cdA 129 109 = some (.getfield 29, 3, 10, 3, 0) from rfl) (by decide) rfl rfl ?_
        have b2010 : (0 : Int) ≤ iI t 2 ∧ iI t 2 ≤ 200 := I.1 2
        refine z_ald X 2 (show cdA 129 112 = some (.iaload, 1, 0, 0, 0) from rfl) (by decide) rfl (by first | exact b2010.1 | omega) (show (iI t 2) < 200 by first | exact oq_6fca3d72 g2009 b2008.2 | omega) (by decide) ?_
        have b2011 : (0 : Int) ≤ iC t 0 ((iI t 2)).toNat ∧ iC t 0 ((iI t 2)).toNat ≤ 255 := I.2 0 _ (show ((iI t 2)).toNat < 200 by first | exact oq_b70289d5 g2009 b2008.2 | omega)
        have fb2012 : iC t 0 ((iI t 2)).toNat = B ((iI t 2)).toNat := jjBYW.1 _ (by omega)
        refine z_callV X 1 (rm := rmN 130) (As := [.int (Int32.ofInt (iC t 0 ((iI t 2)).toNat))]) (st := []) (show cdA 129 113 = some (.invokevirtual 48, 3, 130, 0, 0) from rfl) rfl (by decide) rfl (by rw [E.1, E.2.1, E.2.2.1]; exact c10_kindOf3 G I (by first | exact ⟨b2011.1, b2011.2⟩ | omega) (by omega)) ⟨by rw [E.2.2.2]; exact (show (rmN 130).frames + 1 ≤ (rmN 129).frames by decide), by rw [E.2.2.2]; exact (show 8 + (mNL (miB 130) + 11) + (rmN 130).locals ≤ (rmN 129).locals by decide), by rw [E.2.2.2]; exact (show 0 + (rmN 130).cells ≤ (rmN 129).cells by decide), by rw [E.2.2.2]; exact (show 0 + (rmN 130).slots ≤ (rmN 129).slots by decide)⟩ (Nat.le_of_ble_eq_true rfl) (fun vv s2013 hq => ?_) (fun ee s2013 hq => ?_)
        rotate_left
        · obtain ⟨rfl, e2014, hv, hrs2013, hps2013⟩ := hq; cases hv
        obtain ⟨rfl, e2014, hv, hrs2013, hps2013⟩ := hq
        cases hv
        show WS k 116 [(0, .ref (A 1))] [.int (Int32.ofInt e2014)] (Wd A dT t) 0 0
        refine z_bipush X (show cdA 129 116 = some (.bipush (-2), 2, 0, 0, (-2)) from rfl) ?_
        refine z_icmp_ne X (t := 232) (show cdA 129 118 = some (.if_icmp .ne 114, 3, 1, 0, 0) from rfl) (by decide) hrs2013 (by decide) (fun g2015 => ?_) (fun g2015 => ?_)
        ·
          refine WS_lv (lv := [(0, .ref (A 1))]) (List.forall_mem_cons.mpr ⟨(List.Mem.head _), (fun q h => absurd h List.not_mem_nil)⟩) ?_
          exact kx _  I F jjBYW ⟨(nmV_stop (by omega)).symm.trans hq.1, (nmE_stop (by omega)).symm.trans hq.2⟩ (by first | exact ⟨hi.1, hi.2.1, hi.2.2.1, hi.2.2.2⟩ | omega)
        ·
          refine z_aload_n X (x := A 1) (show cdA 129 121 = some (.aload_n 0, 1, 0, 0, 0) from rfl) (List.Mem.head _) ?_
          refine z_ldc X (show cdA 129 122 = some (.ldc 55, 2, 0, 0, 100000) from rfl) ?_
          refine z_aload_n X (x := A 1) (show cdA 129 124 = some (.aload_n 0, 1, 0, 0, 0) from rfl) (List.Mem.head _) ?_
          refine z_getI X 1 (show cdA 129 125 = some (.getfield 45, 3, 10, 7, 0) from rfl) (by decide) rfl rfl ?_
          have b2016 : (0 : Int) ≤ iI t 6 ∧ iI t 6 ≤ 100000 := I.1 6
          refine z_bipush X (show cdA 129 128 = some (.bipush 10, 2, 0, 0, 10) from rfl) ?_
          refine z_mul X (show cdA 129 130 = some (.imul, 1, 0, 0, 0) from rfl) ?_
          refine z_aload_n X (x := A 1) (show cdA 129 131 = some (.aload_n 0, 1, 0, 0, 0) from rfl) (List.Mem.head _) ?_
          refine s_getR X 1 (show cdA 129 132 = some (.getfield 11, 3, 10, 0, 0) from rfl) (by decide) rfl rfl ?_
          refine z_aload_n X (x := A 1) (show cdA 129 135 = some (.aload_n 0, 1, 0, 0, 0) from rfl) (List.Mem.head _) ?_
          refine z_getI X 1 (show cdA 129 136 = some (.getfield 29, 3, 10, 3, 0) from rfl) (by decide) rfl rfl ?_
          have b2017 : (0 : Int) ≤ iI t 2 ∧ iI t 2 ≤ 200 := I.1 2
          refine z_ald X 2 (show cdA 129 139 = some (.iaload, 1, 0, 0, 0) from rfl) (by decide) rfl (by first | exact b2017.1 | omega) (show (iI t 2) < 200 by first | exact oq_6fca3d72 g2009 b2008.2 | omega) (by decide) ?_
          have b2018 : (0 : Int) ≤ iC t 0 ((iI t 2)).toNat ∧ iC t 0 ((iI t 2)).toNat ≤ 255 := I.2 0 _ (show ((iI t 2)).toNat < 200 by first | exact oq_b70289d5 g2009 b2008.2 | omega)
          have fb2019 : iC t 0 ((iI t 2)).toNat = B ((iI t 2)).toNat := jjBYW.1 _ (by omega)
          refine z_add X (show cdA 129 140 = some (.iadd, 1, 0, 0, 0) from rfl) ?_
          refine z_bipush X (show cdA 129 141 = some (.bipush 48, 2, 0, 0, 48) from rfl) ?_
          refine z_sub X (show cdA 129 143 = some (.isub, 1, 0, 0, 0) from rfl) ?_
          refine z_min X (show cdA 129 144 = some (.invokestatic 56, 3, 0, 8, 0) from rfl) (by decide) ⟨by first | exact oq_74ddc356 b2016.1 b2018.1 | omega, by first | exact oq_507881e8 b2016.2 b2018.2 | omega⟩ (by rw [E.2.2.2]; decide) (by rw [E.2.2.2]; exact Nat.le_of_ble_eq_true rfl) (Nat.zero_le _) (Nat.zero_le _) (fun e2020 he2020 => ?_)
          refine s_putI X 1 (show cdA 129 147 = some (.putfield 45, 3, 10, 7, 0) from rfl) (by decide) rfl rfl (by decide) rfl rfl rfl ?_
          obtain ⟨s2021, hs2021⟩ : ∃ x0, x0 = uI t 6 (Int32.ofInt e2020) := ⟨_, rfl⟩
          rw [← hs2021]
          have Is2021 : Bd s2021 := by rw [hs2021]; exact bd_I I (show (0 : Int) ≤ e2020 ∧ e2020 ≤ 100000 by first | exact ⟨oq_55e138cf he2020 b2018.1 b2016.1 g2015 hps2013, oq_111e13c5 he2020⟩ | omega) ⟨by first | exact oq_d5d8953a he2020 b2018.1 b2016.1 | omega, by first | exact oq_aae81add he2020 | omega⟩
          have Fs2021 := fm_I (x := Int32.ofInt e2020) F (show 6 ∈ _ by decide)
          rw [← hs2021] at Fs2021
          have vs2021 : iI s2021 6 = e2020 := by rw [hs2021]; exact iI_u ⟨by first | exact oq_d5d8953a he2020 b2018.1 b2016.1 | omega, by first | exact oq_aae81add he2020 | omega⟩
          have ws2021_2 : iI s2021 2 = iI t 2 := by rw [hs2021]; rfl
          have ws2021_1 : iI s2021 1 = iI t 1 := by rw [hs2021]; rfl
          have ws2021_4 : iI s2021 4 = iI t 4 := by rw [hs2021]; rfl
          have ws2021_5 : iI s2021 5 = iI t 5 := by rw [hs2021]; rfl
          have ws2021_3 : iI s2021 3 = iI t 3 := by rw [hs2021]; rfl
          have fs2021 : Fm [6] [] t s2021 := by rw [hs2021]; exact fm_I (fm_rf _ _ _) (show 6 ∈ _ by decide)
          have JBYW_s2021 : BYW B N s2021 := BYW_fm fs2021 (by decide) jjBYW
          refine z_aload_n X (x := A 1) (show cdA 129 150 = some (.aload_n 0, 1, 0, 0, 0) from rfl) (List.Mem.head _) ?_
          refine w_dup X.1 (ax_d X (show cdA 129 151 = some (.dup, 1, 0, 0, 0) from rfl)) rfl ?_
          refine z_getI X 1 (show cdA 129 152 = some (.getfield 29, 3, 10, 3, 0) from rfl) (by decide) rfl rfl ?_
          have b2022 : (0 : Int) ≤ iI s2021 2 ∧ iI s2021 2 ≤ 200 := Is2021.1 2
          refine z_const X (show cdA 129 155 = some (.iconst 1, 1, 0, 0, 0) from rfl) ?_
          refine z_add X (show cdA 129 156 = some (.iadd, 1, 0, 0, 0) from rfl) ?_
          refine s_putI X 1 (show cdA 129 157 = some (.putfield 29, 3, 10, 3, 0) from rfl) (by decide) rfl rfl (by decide) rfl rfl rfl ?_
          obtain ⟨s2023, hs2023⟩ : ∃ x0, x0 = uI s2021 2 (Int32.ofInt ((iI s2021 2) + 1)) := ⟨_, rfl⟩
          rw [← hs2023]
          have Is2023 : Bd s2023 := by rw [hs2023]; exact bd_I Is2021 (show (0 : Int) ≤ ((iI s2021 2) + 1) ∧ ((iI s2021 2) + 1) ≤ 200 by first | exact ⟨oq_54f49eb5 b2022.1, oq_ff985df0 ws2021_2 g2009 b2008.2⟩ | omega) ⟨by first | exact oq_74de1e16 b2022.1 | omega, by first | exact oq_bb8d498d b2022.2 | omega⟩
          have Fs2023 := fm_I (x := Int32.ofInt ((iI s2021 2) + 1)) Fs2021 (show 2 ∈ _ by decide)
          rw [← hs2023] at Fs2023
          have vs2023 : iI s2023 2 = ((iI s2021 2) + 1) := by rw [hs2023]; exact iI_u ⟨by first | exact oq_74de1e16 b2022.1 | omega, by first | exact oq_bb8d498d b2022.2 | omega⟩
          have ws2023_1 : iI s2023 1 = iI s2021 1 := by rw [hs2023]; rfl
          have ws2023_4 : iI s2023 4 = iI s2021 4 := by rw [hs2023]; rfl
          have ws2023_5 : iI s2023 5 = iI s2021 5 := by rw [hs2023]; rfl
          have ws2023_6 : iI s2023 6 = iI s2021 6 := by rw [hs2023]; rfl
          have ws2023_3 : iI s2023 3 = iI s2021 3 := by rw [hs2023]; rfl
          have fs2023 : Fm [2] [] s2021 s2023 := by rw [hs2023]; exact fm_I (fm_rf _ _ _) (show 2 ∈ _ by decide)
          have JBYW_s2023 : BYW B N s2023 := BYW_fm fs2023 (by decide) JBYW_s2021
          refine z_goto X (t := 92) (show cdA 129 160 = some (.goto (-68), 3, 0, 0, 0) from rfl) (by decide) ?_
          refine WS_lv (lv := [(0, .ref (A 1))]) (List.forall_mem_cons.mpr ⟨(List.Mem.head _), (fun q h => absurd h List.not_mem_nil)⟩) ?_
          exact ih _  Is2023 Fs2023 JBYW_s2023 (by rw [show iI s2023 2 = iI t 2 + 1 by omega, show iI s2023 6 = cap (10 * iI t 6 + B (iI t 2).toNat - 48) by unfold cap; split <;> omega, ← nmV_dig (by omega) (by omega) (by omega), ← nmE_dig (by omega) (by omega) (by omega)]; exact hq) (by first | exact ⟨oq_499a7076 ws2023_1 vs2023 ws2021_1 ws2021_2 g2009, oq_552af53c vs2023 ws2023_4 ws2021_4 ws2021_2 hi.2.1, oq_2e8e3af2 hi.2.2.1 ws2023_4 ws2021_4, oq_fd530c01 ws2023_5 ws2021_5 hi.2.2.2⟩ | omega) (by first | exact qk_me hm (oq_956b687f ws2023_1 vs2023 ws2021_1 ws2021_2) (oq_901836cd g2009) | omega) kx
  have L172 : ∀ (n : Nat) (t : PS), Bd t → Fm [2, 4, 6, 5] [] s t → BYW B N t → (wdE B N (iI t 2) = wdE B N (sk B N (iI s 2))) → (iI t 2 ≤ iI t 1 ∧ iI t 4 ≤ iI t 2 ∧ iI t 4 = sk B N (iI s 2) ∧ iI t 5 = -3) → (iI t 1 - iI t 2 : Int).toNat < n → (∀ (t' : PS), Bd t' → Fm [2, 4, 6, 5] [] s t' → BYW B N t' → (iI t' 2 = wdE B N (sk B N (iI s 2))) → (iI t' 2 ≤ iI t' 1 ∧ iI t' 4 ≤ iI t' 2 ∧ iI t' 4 = sk B N (iI s 2) ∧ iI t' 5 = -3) → WS k 232 [(0, .ref (A 1))] [] (Wd A dT t') 0 0) → WS k 172 [(0, .ref (A 1))] [] (Wd A dT t) 0 0 := by
    intro n
    induction n with
    | zero =>
      intro t  I F jjBYW hq hi hm kx
      exact absurd hm (Nat.not_lt_zero _)
    | succ n ih =>
      intro t  I F jjBYW hq hi hm kx
      have b3001 : (0 : Int) ≤ iI t 2 ∧ iI t 2 ≤ 200 := I.1 2
      have b3002 : (0 : Int) ≤ iI t 1 ∧ iI t 1 ≤ 200 := I.1 1
      have b3003 : (0 : Int) ≤ iI t 4 ∧ iI t 4 ≤ 200 := I.1 4
      have b3004 : ((-3) : Int) ≤ iI t 5 ∧ iI t 5 ≤ 255 := I.1 5
      have b3005 : (0 : Int) ≤ iI t 6 ∧ iI t 6 ≤ 100000 := I.1 6
      have b3006 : (0 : Int) ≤ iI t 3 ∧ iI t 3 ≤ 1 := I.1 3
      have hN := jjBYW.2.1
      have hW := jjBYW.2.2
      refine z_aload_n X (x := A 1) (show cdA 129 172 = some (.aload_n 0, 1, 0, 0, 0) from rfl) (List.Mem.head _) ?_
      refine z_getI X 1 (show cdA 129 173 = some (.getfield 29, 3, 10, 3, 0) from rfl) (by decide) rfl rfl ?_
      have b3007 : (0 : Int) ≤ iI t 2 ∧ iI t 2 ≤ 200 := I.1 2
      refine z_aload_n X (x := A 1) (show cdA 129 176 = some (.aload_n 0, 1, 0, 0, 0) from rfl) (List.Mem.head _) ?_
      refine z_getI X 1 (show cdA 129 177 = some (.getfield 26, 3, 10, 2, 0) from rfl) (by decide) rfl rfl ?_
      have b3008 : (0 : Int) ≤ iI t 1 ∧ iI t 1 ≤ 200 := I.1 1
      refine z_icmp_ge X (t := 232) (show cdA 129 180 = some (.if_icmp .ge 52, 3, 3, 0, 0) from rfl) (by decide) (rng_to _) (rng_to _) (fun g3009 => ?_) (fun g3009 => ?_)
      ·
        refine WS_lv (lv := [(0, .ref (A 1))]) (List.forall_mem_cons.mpr ⟨(List.Mem.head _), (fun q h => absurd h List.not_mem_nil)⟩) ?_
        exact kx _  I F jjBYW ((wd_stop (by omega)).symm.trans hq) (by first | exact ⟨hi.1, hi.2.1, hi.2.2.1, hi.2.2.2⟩ | omega)
      ·
        refine z_aload_n X (x := A 1) (show cdA 129 183 = some (.aload_n 0, 1, 0, 0, 0) from rfl) (List.Mem.head _) ?_
        refine z_aload_n X (x := A 1) (show cdA 129 184 = some (.aload_n 0, 1, 0, 0, 0) from rfl) (List.Mem.head _) ?_
        refine s_getR X 1 (show cdA 129 185 = some (.getfield 11, 3, 10, 0, 0) from rfl) (by decide) rfl rfl ?_
        refine z_aload_n X (x := A 1) (show cdA 129 188 = some (.aload_n 0, 1, 0, 0, 0) from rfl) (List.Mem.head _) ?_
        refine z_getI X 1 (show cdA 129 189 = some (.getfield 29, 3, 10, 3, 0) from rfl) (by decide) rfl rfl ?_
        have b3010 : (0 : Int) ≤ iI t 2 ∧ iI t 2 ≤ 200 := I.1 2
        refine z_ald X 2 (show cdA 129 192 = some (.iaload, 1, 0, 0, 0) from rfl) (by decide) rfl (by first | exact b3010.1 | omega) (show (iI t 2) < 200 by first | exact oq_6fca3d72 g3009 b3008.2 | omega) (by decide) ?_
        have b3011 : (0 : Int) ≤ iC t 0 ((iI t 2)).toNat ∧ iC t 0 ((iI t 2)).toNat ≤ 255 := I.2 0 _ (show ((iI t 2)).toNat < 200 by first | exact oq_b70289d5 g3009 b3008.2 | omega)
        have fb3012 : iC t 0 ((iI t 2)).toNat = B ((iI t 2)).toNat := jjBYW.1 _ (by omega)
        refine z_callV X 1 (rm := rmN 130) (As := [.int (Int32.ofInt (iC t 0 ((iI t 2)).toNat))]) (st := []) (show cdA 129 193 = some (.invokevirtual 48, 3, 130, 0, 0) from rfl) rfl (by decide) rfl (by rw [E.1, E.2.1, E.2.2.1]; exact c10_kindOf3 G I (by first | exact ⟨b3011.1, b3011.2⟩ | omega) (by omega)) ⟨by rw [E.2.2.2]; exact (show (rmN 130).frames + 1 ≤ (rmN 129).frames by decide), by rw [E.2.2.2]; exact (show 8 + (mNL (miB 130) + 11) + (rmN 130).locals ≤ (rmN 129).locals by decide), by rw [E.2.2.2]; exact (show 0 + (rmN 130).cells ≤ (rmN 129).cells by decide), by rw [E.2.2.2]; exact (show 0 + (rmN 130).slots ≤ (rmN 129).slots by decide)⟩ (Nat.le_of_ble_eq_true rfl) (fun vv s3013 hq => ?_) (fun ee s3013 hq => ?_)
        rotate_left
        · obtain ⟨rfl, e3014, hv, hrs3013, hps3013⟩ := hq; cases hv
        obtain ⟨rfl, e3014, hv, hrs3013, hps3013⟩ := hq
        cases hv
        show WS k 196 [(0, .ref (A 1))] [.int (Int32.ofInt e3014)] (Wd A dT t) 0 0
        refine z_bipush X (show cdA 129 196 = some (.bipush (-3), 2, 0, 0, (-3)) from rfl) ?_
        refine z_icmp_ne X (t := 232) (show cdA 129 198 = some (.if_icmp .ne 34, 3, 1, 0, 0) from rfl) (by decide) hrs3013 (by decide) (fun g3015 => ?_) (fun g3015 => ?_)
        ·
          refine WS_lv (lv := [(0, .ref (A 1))]) (List.forall_mem_cons.mpr ⟨(List.Mem.head _), (fun q h => absurd h List.not_mem_nil)⟩) ?_
          exact kx _  I F jjBYW ((wd_stop (by omega)).symm.trans hq) (by first | exact ⟨hi.1, hi.2.1, hi.2.2.1, hi.2.2.2⟩ | omega)
        ·
          refine z_aload_n X (x := A 1) (show cdA 129 201 = some (.aload_n 0, 1, 0, 0, 0) from rfl) (List.Mem.head _) ?_
          refine w_dup X.1 (ax_d X (show cdA 129 202 = some (.dup, 1, 0, 0, 0) from rfl)) rfl ?_
          refine z_getI X 1 (show cdA 129 203 = some (.getfield 29, 3, 10, 3, 0) from rfl) (by decide) rfl rfl ?_
          have b3016 : (0 : Int) ≤ iI t 2 ∧ iI t 2 ≤ 200 := I.1 2
          refine z_const X (show cdA 129 206 = some (.iconst 1, 1, 0, 0, 0) from rfl) ?_
          refine z_add X (show cdA 129 207 = some (.iadd, 1, 0, 0, 0) from rfl) ?_
          refine s_putI X 1 (show cdA 129 208 = some (.putfield 29, 3, 10, 3, 0) from rfl) (by decide) rfl rfl (by decide) rfl rfl rfl ?_
          obtain ⟨s3017, hs3017⟩ : ∃ x0, x0 = uI t 2 (Int32.ofInt ((iI t 2) + 1)) := ⟨_, rfl⟩
          rw [← hs3017]
          have Is3017 : Bd s3017 := by rw [hs3017]; exact bd_I I (show (0 : Int) ≤ ((iI t 2) + 1) ∧ ((iI t 2) + 1) ≤ 200 by first | exact ⟨oq_54f49eb5 b3016.1, oq_228270fa g3009 b3008.2⟩ | omega) ⟨by first | exact oq_74de1e16 b3016.1 | omega, by first | exact oq_bb8d498d b3016.2 | omega⟩
          have Fs3017 := fm_I (x := Int32.ofInt ((iI t 2) + 1)) F (show 2 ∈ _ by decide)
          rw [← hs3017] at Fs3017
          have vs3017 : iI s3017 2 = ((iI t 2) + 1) := by rw [hs3017]; exact iI_u ⟨by first | exact oq_74de1e16 b3016.1 | omega, by first | exact oq_bb8d498d b3016.2 | omega⟩
          have ws3017_1 : iI s3017 1 = iI t 1 := by rw [hs3017]; rfl
          have ws3017_4 : iI s3017 4 = iI t 4 := by rw [hs3017]; rfl
          have ws3017_5 : iI s3017 5 = iI t 5 := by rw [hs3017]; rfl
          have ws3017_6 : iI s3017 6 = iI t 6 := by rw [hs3017]; rfl
          have ws3017_3 : iI s3017 3 = iI t 3 := by rw [hs3017]; rfl
          have fs3017 : Fm [2] [] t s3017 := by rw [hs3017]; exact fm_I (fm_rf _ _ _) (show 2 ∈ _ by decide)
          have JBYW_s3017 : BYW B N s3017 := BYW_fm fs3017 (by decide) jjBYW
          refine z_goto X (t := 172) (show cdA 129 211 = some (.goto (-39), 3, 0, 0, 0) from rfl) (by decide) ?_
          refine WS_lv (lv := [(0, .ref (A 1))]) (List.forall_mem_cons.mpr ⟨(List.Mem.head _), (fun q h => absurd h List.not_mem_nil)⟩) ?_
          exact ih _  Is3017 Fs3017 JBYW_s3017 (by rw [vs3017, ← wd_let (by omega) (by omega) (by omega)]; exact hq) (by first | exact ⟨oq_61bfd4fa ws3017_1 vs3017 g3009, oq_13269827 vs3017 ws3017_4 hi.2.1, oq_27118732 hi.2.2.1 ws3017_4, oq_15d471aa ws3017_5 hi.2.2.2 b3004.1⟩ | omega) (by first | exact qk_me hm (oq_bf2569a2 ws3017_1 vs3017) (oq_901836cd g3009) | omega) kx
  refine WS_lv (lv := [(0, .ref (A 1))]) (List.forall_mem_cons.mpr ⟨(List.Mem.head _), (fun q h => absurd h List.not_mem_nil)⟩) ?_
  refine L0 ((iI s 1 - iI s 2 : Int).toNat + 1) s  I F jBYW rfl (by first | exact p0 | omega) (Nat.lt_succ_self _) ?_
  intro s7  Is7 Fs7 JBYW_s7 Qs7 hs7
  have b8 : (0 : Int) ≤ iI s7 2 ∧ iI s7 2 ≤ 200 := Is7.1 2
  have b9 : (0 : Int) ≤ iI s7 1 ∧ iI s7 1 ≤ 200 := Is7.1 1
  have b10 : (0 : Int) ≤ iI s7 4 ∧ iI s7 4 ≤ 200 := Is7.1 4
  have b11 : ((-3) : Int) ≤ iI s7 5 ∧ iI s7 5 ≤ 255 := Is7.1 5
  have b12 : (0 : Int) ≤ iI s7 6 ∧ iI s7 6 ≤ 100000 := Is7.1 6
  have b13 : (0 : Int) ≤ iI s7 3 ∧ iI s7 3 ≤ 1 := Is7.1 3
  have hNs7 := JBYW_s7.2.1
  have hWs7 := JBYW_s7.2.2
  refine z_aload_n X (x := A 1) (show cdA 129 38 = some (.aload_n 0, 1, 0, 0, 0) from rfl) (List.Mem.head _) ?_
  refine z_aload_n X (x := A 1) (show cdA 129 39 = some (.aload_n 0, 1, 0, 0, 0) from rfl) (List.Mem.head _) ?_
  refine z_getI X 1 (show cdA 129 40 = some (.getfield 29, 3, 10, 3, 0) from rfl) (by decide) rfl rfl ?_
  have b14 : (0 : Int) ≤ iI s7 2 ∧ iI s7 2 ≤ 200 := Is7.1 2
  refine s_putI X 1 (show cdA 129 43 = some (.putfield 42, 3, 10, 5, 0) from rfl) (by decide) rfl rfl (by decide) rfl rfl rfl ?_
  obtain ⟨s15, hs15⟩ : ∃ x0, x0 = uI s7 4 (Int32.ofInt (iI s7 2)) := ⟨_, rfl⟩
  rw [← hs15]
  have Is15 : Bd s15 := by rw [hs15]; exact bd_I Is7 (show (0 : Int) ≤ (iI s7 2) ∧ (iI s7 2) ≤ 200 by first | exact ⟨b14.1, b14.2⟩ | omega) (rng_to _)
  have Fs15 := fm_I (x := Int32.ofInt (iI s7 2)) Fs7 (show 4 ∈ _ by decide)
  rw [← hs15] at Fs15
  have vs15 : iI s15 4 = (iI s7 2) := by rw [hs15]; exact iI_u (rng_to _)
  have ws15_2 : iI s15 2 = iI s7 2 := by rw [hs15]; rfl
  have ws15_1 : iI s15 1 = iI s7 1 := by rw [hs15]; rfl
  have ws15_5 : iI s15 5 = iI s7 5 := by rw [hs15]; rfl
  have ws15_6 : iI s15 6 = iI s7 6 := by rw [hs15]; rfl
  have ws15_3 : iI s15 3 = iI s7 3 := by rw [hs15]; rfl
  have fs15 : Fm [4] [] s7 s15 := by rw [hs15]; exact fm_I (fm_rf _ _ _) (show 4 ∈ _ by decide)
  have JBYW_s15 : BYW B N s15 := BYW_fm fs15 (by decide) JBYW_s7
  refine z_aload_n X (x := A 1) (show cdA 129 46 = some (.aload_n 0, 1, 0, 0, 0) from rfl) (List.Mem.head _) ?_
  refine z_const X (show cdA 129 47 = some (.iconst 0, 1, 0, 0, 0) from rfl) ?_
  refine s_putI X 1 (show cdA 129 48 = some (.putfield 45, 3, 10, 7, 0) from rfl) (by decide) rfl rfl (by decide) rfl rfl rfl ?_
  obtain ⟨s16, hs16⟩ : ∃ x0, x0 = uI s15 6 (Int32.ofInt 0) := ⟨_, rfl⟩
  rw [← hs16]
  have Is16 : Bd s16 := by rw [hs16]; exact bd_I Is15 (show (0 : Int) ≤ 0 ∧ 0 ≤ 100000 by first | exact ⟨by decide, by decide⟩ | omega) (by decide)
  have Fs16 := fm_I (x := Int32.ofInt 0) Fs15 (show 6 ∈ _ by decide)
  rw [← hs16] at Fs16
  have vs16 : iI s16 6 = 0 := by rw [hs16]; exact iI_u (by decide)
  have ws16_2 : iI s16 2 = iI s15 2 := by rw [hs16]; rfl
  have ws16_1 : iI s16 1 = iI s15 1 := by rw [hs16]; rfl
  have ws16_4 : iI s16 4 = iI s15 4 := by rw [hs16]; rfl
  have ws16_5 : iI s16 5 = iI s15 5 := by rw [hs16]; rfl
  have ws16_3 : iI s16 3 = iI s15 3 := by rw [hs16]; rfl
  have fs16 : Fm [6] [] s15 s16 := by rw [hs16]; exact fm_I (fm_rf _ _ _) (show 6 ∈ _ by decide)
  have JBYW_s16 : BYW B N s16 := BYW_fm fs16 (by decide) JBYW_s15
  refine z_aload_n X (x := A 1) (show cdA 129 51 = some (.aload_n 0, 1, 0, 0, 0) from rfl) (List.Mem.head _) ?_
  refine z_aload_n X (x := A 1) (show cdA 129 52 = some (.aload_n 0, 1, 0, 0, 0) from rfl) (List.Mem.head _) ?_
  refine z_getI X 1 (show cdA 129 53 = some (.getfield 29, 3, 10, 3, 0) from rfl) (by decide) rfl rfl ?_
  have b17 : (0 : Int) ≤ iI s16 2 ∧ iI s16 2 ≤ 200 := Is16.1 2
  refine z_aload_n X (x := A 1) (show cdA 129 56 = some (.aload_n 0, 1, 0, 0, 0) from rfl) (List.Mem.head _) ?_
  refine z_getI X 1 (show cdA 129 57 = some (.getfield 26, 3, 10, 2, 0) from rfl) (by decide) rfl rfl ?_
  have b18 : (0 : Int) ≤ iI s16 1 ∧ iI s16 1 ≤ 200 := Is16.1 1
  refine z_icmp_ge X (t := 79) (show cdA 129 60 = some (.if_icmp .ge 19, 3, 3, 0, 0) from rfl) (by decide) (rng_to _) (rng_to _) (fun g19 => ?_) (fun g19 => ?_)
  ·
    refine z_const X (show cdA 129 79 = some (.iconst (-1), 1, 0, 0, 0) from rfl) ?_
    refine s_putI X 1 (show cdA 129 80 = some (.putfield 52, 3, 10, 6, 0) from rfl) (by decide) rfl rfl (by decide) rfl rfl rfl ?_
    obtain ⟨s20, hs20⟩ : ∃ x0, x0 = uI s16 5 (Int32.ofInt (-1)) := ⟨_, rfl⟩
    rw [← hs20]
    have Is20 : Bd s20 := by rw [hs20]; exact bd_I Is16 (show ((-3) : Int) ≤ (-1) ∧ (-1) ≤ 255 by first | exact ⟨by decide, by decide⟩ | omega) (by decide)
    have Fs20 := fm_I (x := Int32.ofInt (-1)) Fs16 (show 5 ∈ _ by decide)
    rw [← hs20] at Fs20
    have vs20 : iI s20 5 = (-1) := by rw [hs20]; exact iI_u (by decide)
    have ws20_2 : iI s20 2 = iI s16 2 := by rw [hs20]; rfl
    have ws20_1 : iI s20 1 = iI s16 1 := by rw [hs20]; rfl
    have ws20_4 : iI s20 4 = iI s16 4 := by rw [hs20]; rfl
    have ws20_6 : iI s20 6 = iI s16 6 := by rw [hs20]; rfl
    have ws20_3 : iI s20 3 = iI s16 3 := by rw [hs20]; rfl
    have fs20 : Fm [5] [] s16 s20 := by rw [hs20]; exact fm_I (fm_rf _ _ _) (show 5 ∈ _ by decide)
    have JBYW_s20 : BYW B N s20 := BYW_fm fs20 (by decide) JBYW_s16
    refine z_aload_n X (x := A 1) (show cdA 129 83 = some (.aload_n 0, 1, 0, 0, 0) from rfl) (List.Mem.head _) ?_
    refine z_getI X 1 (show cdA 129 84 = some (.getfield 52, 3, 10, 6, 0) from rfl) (by decide) rfl rfl ?_
    have b21 : ((-3) : Int) ≤ iI s20 5 ∧ iI s20 5 ≤ 255 := Is20.1 5
    refine z_bipush X (show cdA 129 87 = some (.bipush (-2), 2, 0, 0, (-2)) from rfl) ?_
    refine z_icmp_ne X (t := 163) (show cdA 129 89 = some (.if_icmp .ne 74, 3, 1, 0, 0) from rfl) (by decide) (rng_to _) (by decide) (fun g22 => ?_) (fun g22 => ?_)
    ·
      refine z_aload_n X (x := A 1) (show cdA 129 163 = some (.aload_n 0, 1, 0, 0, 0) from rfl) (List.Mem.head _) ?_
      refine z_getI X 1 (show cdA 129 164 = some (.getfield 52, 3, 10, 6, 0) from rfl) (by decide) rfl rfl ?_
      have b23 : ((-3) : Int) ≤ iI s20 5 ∧ iI s20 5 ≤ 255 := Is20.1 5
      refine z_bipush X (show cdA 129 167 = some (.bipush (-3), 2, 0, 0, (-3)) from rfl) ?_
      refine z_icmp_ne X (t := 214) (show cdA 129 169 = some (.if_icmp .ne 45, 3, 1, 0, 0) from rfl) (by decide) (rng_to _) (by decide) (fun g24 => ?_) (fun g24 => ?_)
      ·
        refine z_aload_n X (x := A 1) (show cdA 129 214 = some (.aload_n 0, 1, 0, 0, 0) from rfl) (List.Mem.head _) ?_
        refine z_getI X 1 (show cdA 129 215 = some (.getfield 52, 3, 10, 6, 0) from rfl) (by decide) rfl rfl ?_
        have b25 : ((-3) : Int) ≤ iI s20 5 ∧ iI s20 5 ≤ 255 := Is20.1 5
        refine z_const X (show cdA 129 218 = some (.iconst (-1), 1, 0, 0, 0) from rfl) ?_
        refine z_icmp_eq X (t := 232) (show cdA 129 219 = some (.if_icmp .eq 13, 3, 0, 0, 0) from rfl) (by decide) (rng_to _) (by decide) (fun g26 => ?_) (fun g26 => ?_)
        ·
          have JTs20 : TKS B N s20 := by first | exact Or.inl ⟨by omega, by omega⟩ | exact tkw_sig (x := 0) (Q := sk B N (iI s 2)) (by omega) (by omega) (by omega) (by omega) (by omega) (by omega) (by omega) (by omega)
          exact w_vret X.1 q hRt (ax_d X (show cdA 129 232 = some (.return_, 1, 0, 0, 0) from rfl)) (Nat.zero_le _) (Nat.zero_le _) ⟨_, rfl, Is20, Fs20, JBYW_s20, JTs20, rfl, by first | exact ⟨oq_72ebe5a4 ws20_1 ws20_2 ws16_1 ws16_2 ws15_1 ws15_2 hs7, oq_75f1f811 ws20_4 ws20_2 ws16_4 ws16_2 ws15_2 vs15, by omega, by omega⟩ | omega⟩
        ·
          refine z_aload_n X (x := A 1) (show cdA 129 222 = some (.aload_n 0, 1, 0, 0, 0) from rfl) (List.Mem.head _) ?_
          refine w_dup X.1 (ax_d X (show cdA 129 223 = some (.dup, 1, 0, 0, 0) from rfl)) rfl ?_
          refine z_getI X 1 (show cdA 129 224 = some (.getfield 29, 3, 10, 3, 0) from rfl) (by decide) rfl rfl ?_
          have b27 : (0 : Int) ≤ iI s20 2 ∧ iI s20 2 ≤ 200 := Is20.1 2
          refine z_const X (show cdA 129 227 = some (.iconst 1, 1, 0, 0, 0) from rfl) ?_
          refine z_add X (show cdA 129 228 = some (.iadd, 1, 0, 0, 0) from rfl) ?_
          refine s_putI X 1 (show cdA 129 229 = some (.putfield 29, 3, 10, 3, 0) from rfl) (by decide) rfl rfl (by decide) rfl rfl rfl ?_
          obtain ⟨s28, hs28⟩ : ∃ x0, x0 = uI s20 2 (Int32.ofInt ((iI s20 2) + 1)) := ⟨_, rfl⟩
          rw [← hs28]
          have Is28 : Bd s28 := by rw [hs28]; exact bd_I Is20 (show (0 : Int) ≤ ((iI s20 2) + 1) ∧ ((iI s20 2) + 1) ≤ 200 by first | exact ⟨oq_54f49eb5 b27.1, oq_3239b5cf g26 vs20⟩ | omega) ⟨by first | exact oq_74de1e16 b27.1 | omega, by first | exact oq_bb8d498d b27.2 | omega⟩
          have Fs28 := fm_I (x := Int32.ofInt ((iI s20 2) + 1)) Fs20 (show 2 ∈ _ by decide)
          rw [← hs28] at Fs28
          have vs28 : iI s28 2 = ((iI s20 2) + 1) := by rw [hs28]; exact iI_u ⟨by first | exact oq_74de1e16 b27.1 | omega, by first | exact oq_bb8d498d b27.2 | omega⟩
          have ws28_1 : iI s28 1 = iI s20 1 := by rw [hs28]; rfl
          have ws28_4 : iI s28 4 = iI s20 4 := by rw [hs28]; rfl
          have ws28_5 : iI s28 5 = iI s20 5 := by rw [hs28]; rfl
          have ws28_6 : iI s28 6 = iI s20 6 := by rw [hs28]; rfl
          have ws28_3 : iI s28 3 = iI s20 3 := by rw [hs28]; rfl
          have fs28 : Fm [2] [] s20 s28 := by rw [hs28]; exact fm_I (fm_rf _ _ _) (show 2 ∈ _ by decide)
          have JBYW_s28 : BYW B N s28 := BYW_fm fs28 (by decide) JBYW_s20
          have JTs28 : TKS B N s28 := by first | exact Or.inl ⟨by omega, by omega⟩ | exact tkw_sig (x := 0) (Q := sk B N (iI s 2)) (by omega) (by omega) (by omega) (by omega) (by omega) (by omega) (by omega) (by omega)
          exact w_vret X.1 q hRt (ax_d X (show cdA 129 232 = some (.return_, 1, 0, 0, 0) from rfl)) (Nat.zero_le _) (Nat.zero_le _) ⟨_, rfl, Is28, Fs28, JBYW_s28, JTs28, rfl, by first | exact ⟨oq_92cb535d g26 vs20, oq_92f9996c ws28_4 vs28 ws20_4 ws20_2 ws16_4 ws16_2 ws15_2 vs15, oq_0f6bfda4 g26 vs20, oq_92cb535d g26 vs20⟩ | omega⟩
      ·
        refine WS_lv (lv := [(0, .ref (A 1))]) (List.forall_mem_cons.mpr ⟨(List.Mem.head _), (fun q h => absurd h List.not_mem_nil)⟩) ?_
        refine L172 ((iI s20 1 - iI s20 2 : Int).toNat + 1) s20  Is20 Fs20 JBYW_s20 (by rw [show iI s20 2 = sk B N (iI s 2) by omega]) (by first | exact ⟨oq_6e4ffff9 g24 vs20, oq_6e4ffff9 g24 vs20, oq_b09a1c90 g24 vs20, g24⟩ | omega) (Nat.lt_succ_self _) ?_
        intro s29  Is29 Fs29 JBYW_s29 Qs29 hs29
        have b30 : (0 : Int) ≤ iI s29 2 ∧ iI s29 2 ≤ 200 := Is29.1 2
        have b31 : (0 : Int) ≤ iI s29 1 ∧ iI s29 1 ≤ 200 := Is29.1 1
        have b32 : (0 : Int) ≤ iI s29 4 ∧ iI s29 4 ≤ 200 := Is29.1 4
        have b33 : ((-3) : Int) ≤ iI s29 5 ∧ iI s29 5 ≤ 255 := Is29.1 5
        have b34 : (0 : Int) ≤ iI s29 6 ∧ iI s29 6 ≤ 100000 := Is29.1 6
        have b35 : (0 : Int) ≤ iI s29 3 ∧ iI s29 3 ≤ 1 := Is29.1 3
        have hNs29 := JBYW_s29.2.1
        have hWs29 := JBYW_s29.2.2
        have JTs29 : TKS B N s29 := tkw_wrd (x := 0) (Q := sk B N (iI s 2)) (by omega) (by omega) (by omega) (by omega) (by omega) (by omega) (by omega)
        exact w_vret X.1 q hRt (ax_d X (show cdA 129 232 = some (.return_, 1, 0, 0, 0) from rfl)) (Nat.zero_le _) (Nat.zero_le _) ⟨_, rfl, Is29, Fs29, JBYW_s29, JTs29, rfl, by first | exact ⟨hs29.1, hs29.2.1, hs29.2.2.1, oq_6e4ffff9 g24 vs20⟩ | omega⟩
    ·
      refine WS_lv (lv := [(0, .ref (A 1))]) (List.forall_mem_cons.mpr ⟨(List.Mem.head _), (fun q h => absurd h List.not_mem_nil)⟩) ?_
      refine L92 ((iI s20 1 - iI s20 2 : Int).toNat + 1) s20  Is20 Fs20 JBYW_s20 (by rw [show iI s20 2 = sk B N (iI s 2) by omega, show iI s20 6 = 0 by omega]; exact ⟨rfl, rfl⟩) (by first | exact ⟨oq_d948e2ba g22 vs20, oq_d948e2ba g22 vs20, oq_a80f34c2 g22 vs20, g22⟩ | omega) (Nat.lt_succ_self _) ?_
      intro s36  Is36 Fs36 JBYW_s36 Qs36 hs36
      have b37 : (0 : Int) ≤ iI s36 2 ∧ iI s36 2 ≤ 200 := Is36.1 2
      have b38 : (0 : Int) ≤ iI s36 1 ∧ iI s36 1 ≤ 200 := Is36.1 1
      have b39 : (0 : Int) ≤ iI s36 4 ∧ iI s36 4 ≤ 200 := Is36.1 4
      have b40 : ((-3) : Int) ≤ iI s36 5 ∧ iI s36 5 ≤ 255 := Is36.1 5
      have b41 : (0 : Int) ≤ iI s36 6 ∧ iI s36 6 ≤ 100000 := Is36.1 6
      have b42 : (0 : Int) ≤ iI s36 3 ∧ iI s36 3 ≤ 1 := Is36.1 3
      have hNs36 := JBYW_s36.2.1
      have hWs36 := JBYW_s36.2.2
      have JTs36 : TKS B N s36 := tkw_num (x := 0) (Q := sk B N (iI s 2)) (by omega) (by omega) (by omega) (by omega) (by omega) (by omega) (by omega) (by omega)
      exact w_vret X.1 q hRt (ax_d X (show cdA 129 232 = some (.return_, 1, 0, 0, 0) from rfl)) (Nat.zero_le _) (Nat.zero_le _) ⟨_, rfl, Is36, Fs36, JBYW_s36, JTs36, rfl, by first | exact ⟨hs36.1, hs36.2.1, hs36.2.2.1, oq_d948e2ba g22 vs20⟩ | omega⟩
  ·
    refine z_aload_n X (x := A 1) (show cdA 129 63 = some (.aload_n 0, 1, 0, 0, 0) from rfl) (List.Mem.head _) ?_
    refine z_aload_n X (x := A 1) (show cdA 129 64 = some (.aload_n 0, 1, 0, 0, 0) from rfl) (List.Mem.head _) ?_
    refine s_getR X 1 (show cdA 129 65 = some (.getfield 11, 3, 10, 0, 0) from rfl) (by decide) rfl rfl ?_
    refine z_aload_n X (x := A 1) (show cdA 129 68 = some (.aload_n 0, 1, 0, 0, 0) from rfl) (List.Mem.head _) ?_
    refine z_getI X 1 (show cdA 129 69 = some (.getfield 29, 3, 10, 3, 0) from rfl) (by decide) rfl rfl ?_
    have b43 : (0 : Int) ≤ iI s16 2 ∧ iI s16 2 ≤ 200 := Is16.1 2
    refine z_ald X 2 (show cdA 129 72 = some (.iaload, 1, 0, 0, 0) from rfl) (by decide) rfl (by first | exact b43.1 | omega) (show (iI s16 2) < 200 by first | exact oq_6fca3d72 g19 b18.2 | omega) (by decide) ?_
    have b44 : (0 : Int) ≤ iC s16 0 ((iI s16 2)).toNat ∧ iC s16 0 ((iI s16 2)).toNat ≤ 255 := Is16.2 0 _ (show ((iI s16 2)).toNat < 200 by first | exact oq_b70289d5 g19 b18.2 | omega)
    have fb45 : iC s16 0 ((iI s16 2)).toNat = B ((iI s16 2)).toNat := JBYW_s16.1 _ (by omega)
    refine z_callV X 1 (rm := rmN 130) (As := [.int (Int32.ofInt (iC s16 0 ((iI s16 2)).toNat))]) (st := [.ref (A 1)]) (show cdA 129 73 = some (.invokevirtual 48, 3, 130, 0, 0) from rfl) rfl (by decide) rfl (by rw [E.1, E.2.1, E.2.2.1]; exact c10_kindOf3 G Is16 (by first | exact ⟨b44.1, b44.2⟩ | omega) (by omega)) ⟨by rw [E.2.2.2]; exact (show (rmN 130).frames + 1 ≤ (rmN 129).frames by decide), by rw [E.2.2.2]; exact (show 8 + (mNL (miB 130) + 11) + (rmN 130).locals ≤ (rmN 129).locals by decide), by rw [E.2.2.2]; exact (show 0 + (rmN 130).cells ≤ (rmN 129).cells by decide), by rw [E.2.2.2]; exact (show 0 + (rmN 130).slots ≤ (rmN 129).slots by decide)⟩ (Nat.le_of_ble_eq_true rfl) (fun vv s46 hq => ?_) (fun ee s46 hq => ?_)
    rotate_left
    · obtain ⟨rfl, e47, hv, hrs46, hps46⟩ := hq; cases hv
    obtain ⟨rfl, e47, hv, hrs46, hps46⟩ := hq
    cases hv
    show WS k 76 [(0, .ref (A 1))] [.int (Int32.ofInt e47), .ref (A 1)] (Wd A dT s16) 0 0
    refine z_goto X (t := 80) (show cdA 129 76 = some (.goto 4, 3, 0, 0, 0) from rfl) (by decide) ?_
    refine s_putI X 1 (show cdA 129 80 = some (.putfield 52, 3, 10, 6, 0) from rfl) (by decide) rfl rfl (by decide) rfl rfl rfl ?_
    obtain ⟨s48, hs48⟩ : ∃ x0, x0 = uI s16 5 (Int32.ofInt e47) := ⟨_, rfl⟩
    rw [← hs48]
    have Is48 : Bd s48 := by rw [hs48]; exact bd_I Is16 (show ((-3) : Int) ≤ e47 ∧ e47 ≤ 255 by first | exact ⟨oq_45711fbe hps46 b44.1, oq_d9dda619 hps46 b44.2⟩ | omega) hrs46
    have Fs48 := fm_I (x := Int32.ofInt e47) Fs16 (show 5 ∈ _ by decide)
    rw [← hs48] at Fs48
    have vs48 : iI s48 5 = e47 := by rw [hs48]; exact iI_u hrs46
    have ws48_2 : iI s48 2 = iI s16 2 := by rw [hs48]; rfl
    have ws48_1 : iI s48 1 = iI s16 1 := by rw [hs48]; rfl
    have ws48_4 : iI s48 4 = iI s16 4 := by rw [hs48]; rfl
    have ws48_6 : iI s48 6 = iI s16 6 := by rw [hs48]; rfl
    have ws48_3 : iI s48 3 = iI s16 3 := by rw [hs48]; rfl
    have fs48 : Fm [5] [] s16 s48 := by rw [hs48]; exact fm_I (fm_rf _ _ _) (show 5 ∈ _ by decide)
    have JBYW_s48 : BYW B N s48 := BYW_fm fs48 (by decide) JBYW_s16
    refine z_aload_n X (x := A 1) (show cdA 129 83 = some (.aload_n 0, 1, 0, 0, 0) from rfl) (List.Mem.head _) ?_
    refine z_getI X 1 (show cdA 129 84 = some (.getfield 52, 3, 10, 6, 0) from rfl) (by decide) rfl rfl ?_
    have b49 : ((-3) : Int) ≤ iI s48 5 ∧ iI s48 5 ≤ 255 := Is48.1 5
    refine z_bipush X (show cdA 129 87 = some (.bipush (-2), 2, 0, 0, (-2)) from rfl) ?_
    refine z_icmp_ne X (t := 163) (show cdA 129 89 = some (.if_icmp .ne 74, 3, 1, 0, 0) from rfl) (by decide) (rng_to _) (by decide) (fun g50 => ?_) (fun g50 => ?_)
    ·
      refine z_aload_n X (x := A 1) (show cdA 129 163 = some (.aload_n 0, 1, 0, 0, 0) from rfl) (List.Mem.head _) ?_
      refine z_getI X 1 (show cdA 129 164 = some (.getfield 52, 3, 10, 6, 0) from rfl) (by decide) rfl rfl ?_
      have b51 : ((-3) : Int) ≤ iI s48 5 ∧ iI s48 5 ≤ 255 := Is48.1 5
      refine z_bipush X (show cdA 129 167 = some (.bipush (-3), 2, 0, 0, (-3)) from rfl) ?_
      refine z_icmp_ne X (t := 214) (show cdA 129 169 = some (.if_icmp .ne 45, 3, 1, 0, 0) from rfl) (by decide) (rng_to _) (by decide) (fun g52 => ?_) (fun g52 => ?_)
      ·
        refine z_aload_n X (x := A 1) (show cdA 129 214 = some (.aload_n 0, 1, 0, 0, 0) from rfl) (List.Mem.head _) ?_
        refine z_getI X 1 (show cdA 129 215 = some (.getfield 52, 3, 10, 6, 0) from rfl) (by decide) rfl rfl ?_
        have b53 : ((-3) : Int) ≤ iI s48 5 ∧ iI s48 5 ≤ 255 := Is48.1 5
        refine z_const X (show cdA 129 218 = some (.iconst (-1), 1, 0, 0, 0) from rfl) ?_
        refine z_icmp_eq X (t := 232) (show cdA 129 219 = some (.if_icmp .eq 13, 3, 0, 0, 0) from rfl) (by decide) (rng_to _) (by decide) (fun g54 => ?_) (fun g54 => ?_)
        ·
          have JTs48 : TKS B N s48 := by first | exact Or.inl ⟨by omega, by omega⟩ | exact tkw_sig (x := ((iI s16 2))) (Q := sk B N (iI s 2)) (by omega) (by omega) (by omega) (by omega) (by omega) (by omega) (by omega) (by omega)
          exact w_vret X.1 q hRt (ax_d X (show cdA 129 232 = some (.return_, 1, 0, 0, 0) from rfl)) (Nat.zero_le _) (Nat.zero_le _) ⟨_, rfl, Is48, Fs48, JBYW_s48, JTs48, rfl, by first | exact ⟨oq_51a58521 ws48_1 ws48_2 g19, oq_75f1f811 ws48_4 ws48_2 ws16_4 ws16_2 ws15_2 vs15, oq_76b27918 g54 vs48 hps46 b44.1, oq_eaa884a5 g54 vs48 hps46 b44.1⟩ | omega⟩
        ·
          refine z_aload_n X (x := A 1) (show cdA 129 222 = some (.aload_n 0, 1, 0, 0, 0) from rfl) (List.Mem.head _) ?_
          refine w_dup X.1 (ax_d X (show cdA 129 223 = some (.dup, 1, 0, 0, 0) from rfl)) rfl ?_
          refine z_getI X 1 (show cdA 129 224 = some (.getfield 29, 3, 10, 3, 0) from rfl) (by decide) rfl rfl ?_
          have b55 : (0 : Int) ≤ iI s48 2 ∧ iI s48 2 ≤ 200 := Is48.1 2
          refine z_const X (show cdA 129 227 = some (.iconst 1, 1, 0, 0, 0) from rfl) ?_
          refine z_add X (show cdA 129 228 = some (.iadd, 1, 0, 0, 0) from rfl) ?_
          refine s_putI X 1 (show cdA 129 229 = some (.putfield 29, 3, 10, 3, 0) from rfl) (by decide) rfl rfl (by decide) rfl rfl rfl ?_
          obtain ⟨s56, hs56⟩ : ∃ x0, x0 = uI s48 2 (Int32.ofInt ((iI s48 2) + 1)) := ⟨_, rfl⟩
          rw [← hs56]
          have Is56 : Bd s56 := by rw [hs56]; exact bd_I Is48 (show (0 : Int) ≤ ((iI s48 2) + 1) ∧ ((iI s48 2) + 1) ≤ 200 by first | exact ⟨oq_54f49eb5 b55.1, oq_ff985df0 ws48_2 g19 b18.2⟩ | omega) ⟨by first | exact oq_74de1e16 b55.1 | omega, by first | exact oq_bb8d498d b55.2 | omega⟩
          have Fs56 := fm_I (x := Int32.ofInt ((iI s48 2) + 1)) Fs48 (show 2 ∈ _ by decide)
          rw [← hs56] at Fs56
          have vs56 : iI s56 2 = ((iI s48 2) + 1) := by rw [hs56]; exact iI_u ⟨by first | exact oq_74de1e16 b55.1 | omega, by first | exact oq_bb8d498d b55.2 | omega⟩
          have ws56_1 : iI s56 1 = iI s48 1 := by rw [hs56]; rfl
          have ws56_4 : iI s56 4 = iI s48 4 := by rw [hs56]; rfl
          have ws56_5 : iI s56 5 = iI s48 5 := by rw [hs56]; rfl
          have ws56_6 : iI s56 6 = iI s48 6 := by rw [hs56]; rfl
          have ws56_3 : iI s56 3 = iI s48 3 := by rw [hs56]; rfl
          have fs56 : Fm [2] [] s48 s56 := by rw [hs56]; exact fm_I (fm_rf _ _ _) (show 2 ∈ _ by decide)
          have JBYW_s56 : BYW B N s56 := BYW_fm fs56 (by decide) JBYW_s48
          have JTs56 : TKS B N s56 := by first | exact Or.inl ⟨by omega, by omega⟩ | exact tkw_sig (x := ((iI s16 2))) (Q := sk B N (iI s 2)) (by omega) (by omega) (by omega) (by omega) (by omega) (by omega) (by omega) (by omega)
          exact w_vret X.1 q hRt (ax_d X (show cdA 129 232 = some (.return_, 1, 0, 0, 0) from rfl)) (Nat.zero_le _) (Nat.zero_le _) ⟨_, rfl, Is56, Fs56, JBYW_s56, JTs56, rfl, by first | exact ⟨oq_499a7076 ws56_1 vs56 ws48_1 ws48_2 g19, oq_92f9996c ws56_4 vs56 ws48_4 ws48_2 ws16_4 ws16_2 ws15_2 vs15, by omega, by omega⟩ | omega⟩
      ·
        refine WS_lv (lv := [(0, .ref (A 1))]) (List.forall_mem_cons.mpr ⟨(List.Mem.head _), (fun q h => absurd h List.not_mem_nil)⟩) ?_
        refine L172 ((iI s48 1 - iI s48 2 : Int).toNat + 1) s48  Is48 Fs48 JBYW_s48 (by rw [show iI s48 2 = sk B N (iI s 2) by omega]) (by first | exact ⟨oq_51a58521 ws48_1 ws48_2 g19, oq_75f1f811 ws48_4 ws48_2 ws16_4 ws16_2 ws15_2 vs15, by omega, g52⟩ | omega) (Nat.lt_succ_self _) ?_
        intro s57  Is57 Fs57 JBYW_s57 Qs57 hs57
        have b58 : (0 : Int) ≤ iI s57 2 ∧ iI s57 2 ≤ 200 := Is57.1 2
        have b59 : (0 : Int) ≤ iI s57 1 ∧ iI s57 1 ≤ 200 := Is57.1 1
        have b60 : (0 : Int) ≤ iI s57 4 ∧ iI s57 4 ≤ 200 := Is57.1 4
        have b61 : ((-3) : Int) ≤ iI s57 5 ∧ iI s57 5 ≤ 255 := Is57.1 5
        have b62 : (0 : Int) ≤ iI s57 6 ∧ iI s57 6 ≤ 100000 := Is57.1 6
        have b63 : (0 : Int) ≤ iI s57 3 ∧ iI s57 3 ≤ 1 := Is57.1 3
        have hNs57 := JBYW_s57.2.1
        have hWs57 := JBYW_s57.2.2
        have JTs57 : TKS B N s57 := tkw_wrd (x := ((iI s16 2))) (Q := sk B N (iI s 2)) (by omega) (by omega) (by omega) (by omega) (by omega) (by omega) (by omega)
        exact w_vret X.1 q hRt (ax_d X (show cdA 129 232 = some (.return_, 1, 0, 0, 0) from rfl)) (Nat.zero_le _) (Nat.zero_le _) ⟨_, rfl, Is57, Fs57, JBYW_s57, JTs57, rfl, by first | exact ⟨hs57.1, hs57.2.1, hs57.2.2.1, by omega⟩ | omega⟩
    ·
      refine WS_lv (lv := [(0, .ref (A 1))]) (List.forall_mem_cons.mpr ⟨(List.Mem.head _), (fun q h => absurd h List.not_mem_nil)⟩) ?_
      refine L92 ((iI s48 1 - iI s48 2 : Int).toNat + 1) s48  Is48 Fs48 JBYW_s48 (by rw [show iI s48 2 = sk B N (iI s 2) by omega, show iI s48 6 = 0 by omega]; exact ⟨rfl, rfl⟩) (by first | exact ⟨oq_51a58521 ws48_1 ws48_2 g19, oq_75f1f811 ws48_4 ws48_2 ws16_4 ws16_2 ws15_2 vs15, by omega, g50⟩ | omega) (Nat.lt_succ_self _) ?_
      intro s64  Is64 Fs64 JBYW_s64 Qs64 hs64
      have b65 : (0 : Int) ≤ iI s64 2 ∧ iI s64 2 ≤ 200 := Is64.1 2
      have b66 : (0 : Int) ≤ iI s64 1 ∧ iI s64 1 ≤ 200 := Is64.1 1
      have b67 : (0 : Int) ≤ iI s64 4 ∧ iI s64 4 ≤ 200 := Is64.1 4
      have b68 : ((-3) : Int) ≤ iI s64 5 ∧ iI s64 5 ≤ 255 := Is64.1 5
      have b69 : (0 : Int) ≤ iI s64 6 ∧ iI s64 6 ≤ 100000 := Is64.1 6
      have b70 : (0 : Int) ≤ iI s64 3 ∧ iI s64 3 ≤ 1 := Is64.1 3
      have hNs64 := JBYW_s64.2.1
      have hWs64 := JBYW_s64.2.2
      have JTs64 : TKS B N s64 := tkw_num (x := ((iI s16 2))) (Q := sk B N (iI s 2)) (by omega) (by omega) (by omega) (by omega) (by omega) (by omega) (by omega) (by omega)
      exact w_vret X.1 q hRt (ax_d X (show cdA 129 232 = some (.return_, 1, 0, 0, 0) from rfl)) (Nat.zero_le _) (Nat.zero_le _) ⟨_, rfl, Is64, Fs64, JBYW_s64, JTs64, rfl, by first | exact ⟨hs64.1, hs64.2.1, hs64.2.2.1, by omega⟩ | omega⟩
set_option maxRecDepth 4000 in
theorem c10_open3 (G : GX l s0 D tys a0 dT) {B : Nat → Int} (I : Bd s) (jBYA : BYA B s) {x y : Int} (p0 : 0 ≤ x ∧ x ≤ 200) (p1 : y = 1) : CT l s0 D A dT 128 (rmN 128) [.ref (A 1), .int (Int32.ofInt x), .int (Int32.ofInt y)] s (fun o t => Bd t ∧ Fm [2, 4, 6, 5, 1, 3, 0, 7, 8] [] s t ∧ BYW B x t ∧ TKS B x t ∧ o = .inl none ∧ (iI t 0 = 0 ∧ iI t 2 ≤ iI t 1 ∧ iI t 4 ≤ iI t 2 ∧ iI t 4 = sk B x 0 ∧ iI t 7 = 0)) := by
  refine ct_ofX G (by decide) (Nat.le_of_ble_eq_true rfl) (fun k X E ET hRt hXt q => ?_)
  show WS k 0 [(0, .ref (A 1)), (1, .int (Int32.ofInt x)), (2, .int (Int32.ofInt y))] [] _ 0 0
  have F : Fm [2, 4, 6, 5, 1, 3, 0, 7, 8] [] s s := fm_rf _ _ s
  have b1 : (0 : Int) ≤ iI s 0 ∧ iI s 0 ≤ 200 := I.1 0
  have b2 : (0 : Int) ≤ iI s 2 ∧ iI s 2 ≤ 200 := I.1 2
  have b3 : (0 : Int) ≤ iI s 1 ∧ iI s 1 ≤ 200 := I.1 1
  have b4 : (0 : Int) ≤ iI s 4 ∧ iI s 4 ≤ 200 := I.1 4
  have b5 : (0 : Int) ≤ iI s 3 ∧ iI s 3 ≤ 1 := I.1 3
  have b6 : (0 : Int) ≤ iI s 7 ∧ iI s 7 ≤ 9 := I.1 7
  refine z_aload_n X (x := A 1) (show cdA 128 0 = some (.aload_n 0, 1, 0, 0, 0) from rfl) (List.Mem.head _) ?_
  refine z_load_n X (x := x) (show cdA 128 1 = some (.iload_n 1, 1, 0, 0, 0) from rfl) (List.Mem.tail _ (List.Mem.head _)) ?_
  refine s_putI X 1 (show cdA 128 2 = some (.putfield 26, 3, 10, 2, 0) from rfl) (by decide) rfl rfl (by decide) rfl rfl rfl ?_
  obtain ⟨s7, hs7⟩ : ∃ x0, x0 = uI s 1 (Int32.ofInt x) := ⟨_, rfl⟩
  rw [← hs7]
  have Is7 : Bd s7 := by rw [hs7]; exact bd_I I (show (0 : Int) ≤ x ∧ x ≤ 200 by first | exact ⟨p0.1, p0.2⟩ | omega) ⟨by first | exact oq_fa4e5087 p0.1 | omega, by first | exact oq_52af2b96 p0.2 | omega⟩
  have Fs7 := fm_I (x := Int32.ofInt x) F (show 1 ∈ _ by decide)
  rw [← hs7] at Fs7
  have vs7 : iI s7 1 = x := by rw [hs7]; exact iI_u ⟨by first | exact oq_fa4e5087 p0.1 | omega, by first | exact oq_52af2b96 p0.2 | omega⟩
  have ws7_0 : iI s7 0 = iI s 0 := by rw [hs7]; rfl
  have ws7_2 : iI s7 2 = iI s 2 := by rw [hs7]; rfl
  have ws7_4 : iI s7 4 = iI s 4 := by rw [hs7]; rfl
  have ws7_3 : iI s7 3 = iI s 3 := by rw [hs7]; rfl
  have ws7_7 : iI s7 7 = iI s 7 := by rw [hs7]; rfl
  have fs7 : Fm [1] [] s s7 := by rw [hs7]; exact fm_I (fm_rf _ _ _) (show 1 ∈ _ by decide)
  have JBYA_s7 : BYA B s7 := BYA_fm fs7 (by decide) jBYA
  refine z_aload_n X (x := A 1) (show cdA 128 5 = some (.aload_n 0, 1, 0, 0, 0) from rfl) (List.Mem.head _) ?_
  refine z_const X (show cdA 128 6 = some (.iconst 0, 1, 0, 0, 0) from rfl) ?_
  refine s_putI X 1 (show cdA 128 7 = some (.putfield 29, 3, 10, 3, 0) from rfl) (by decide) rfl rfl (by decide) rfl rfl rfl ?_
  obtain ⟨s8, hs8⟩ : ∃ x0, x0 = uI s7 2 (Int32.ofInt 0) := ⟨_, rfl⟩
  rw [← hs8]
  have Is8 : Bd s8 := by rw [hs8]; exact bd_I Is7 (show (0 : Int) ≤ 0 ∧ 0 ≤ 200 by first | exact ⟨by decide, by decide⟩ | omega) (by decide)
  have Fs8 := fm_I (x := Int32.ofInt 0) Fs7 (show 2 ∈ _ by decide)
  rw [← hs8] at Fs8
  have vs8 : iI s8 2 = 0 := by rw [hs8]; exact iI_u (by decide)
  have ws8_0 : iI s8 0 = iI s7 0 := by rw [hs8]; rfl
  have ws8_1 : iI s8 1 = iI s7 1 := by rw [hs8]; rfl
  have ws8_4 : iI s8 4 = iI s7 4 := by rw [hs8]; rfl
  have ws8_3 : iI s8 3 = iI s7 3 := by rw [hs8]; rfl
  have ws8_7 : iI s8 7 = iI s7 7 := by rw [hs8]; rfl
  have fs8 : Fm [2] [] s7 s8 := by rw [hs8]; exact fm_I (fm_rf _ _ _) (show 2 ∈ _ by decide)
  have JBYA_s8 : BYA B s8 := BYA_fm fs8 (by decide) JBYA_s7
  refine z_aload_n X (x := A 1) (show cdA 128 10 = some (.aload_n 0, 1, 0, 0, 0) from rfl) (List.Mem.head _) ?_
  refine z_load_n X (x := y) (show cdA 128 11 = some (.iload_n 2, 1, 0, 0, 0) from rfl) (List.Mem.tail _ (List.Mem.tail _ (List.Mem.head _))) ?_
  refine s_putI X 1 (show cdA 128 12 = some (.putfield 32, 3, 10, 4, 0) from rfl) (by decide) rfl rfl (by decide) (nar_ret (by omega)) (fit_z (by omega)) rfl ?_
  obtain ⟨s9, hs9⟩ : ∃ x0, x0 = uI s8 3 (Int32.ofInt y) := ⟨_, rfl⟩
  rw [← hs9]
  have Is9 : Bd s9 := by rw [hs9]; exact bd_I Is8 (show (0 : Int) ≤ y ∧ y ≤ 1 by first | exact ⟨oq_a1cdbcd8 p1, oq_c4f7fe85 p1⟩ | omega) ⟨by first | exact oq_c4d5fd5b p1 | omega, by first | exact oq_9b80f9a5 p1 | omega⟩
  have Fs9 := fm_I (x := Int32.ofInt y) Fs8 (show 3 ∈ _ by decide)
  rw [← hs9] at Fs9
  have vs9 : iI s9 3 = y := by rw [hs9]; exact iI_u ⟨by first | exact oq_c4d5fd5b p1 | omega, by first | exact oq_9b80f9a5 p1 | omega⟩
  have ws9_0 : iI s9 0 = iI s8 0 := by rw [hs9]; rfl
  have ws9_2 : iI s9 2 = iI s8 2 := by rw [hs9]; rfl
  have ws9_1 : iI s9 1 = iI s8 1 := by rw [hs9]; rfl
  have ws9_4 : iI s9 4 = iI s8 4 := by rw [hs9]; rfl
  have ws9_7 : iI s9 7 = iI s8 7 := by rw [hs9]; rfl
  have fs9 : Fm [3] [] s8 s9 := by rw [hs9]; exact fm_I (fm_rf _ _ _) (show 3 ∈ _ by decide)
  have JBYA_s9 : BYA B s9 := BYA_fm fs9 (by decide) JBYA_s8
  refine z_aload_n X (x := A 1) (show cdA 128 15 = some (.aload_n 0, 1, 0, 0, 0) from rfl) (List.Mem.head _) ?_
  refine z_const X (show cdA 128 16 = some (.iconst 0, 1, 0, 0, 0) from rfl) ?_
  refine s_putI X 1 (show cdA 128 17 = some (.putfield 19, 3, 10, 1, 0) from rfl) (by decide) rfl rfl (by decide) rfl rfl rfl ?_
  obtain ⟨s10, hs10⟩ : ∃ x0, x0 = uI s9 0 (Int32.ofInt 0) := ⟨_, rfl⟩
  rw [← hs10]
  have Is10 : Bd s10 := by rw [hs10]; exact bd_I Is9 (show (0 : Int) ≤ 0 ∧ 0 ≤ 200 by first | exact ⟨by decide, by decide⟩ | omega) (by decide)
  have Fs10 := fm_I (x := Int32.ofInt 0) Fs9 (show 0 ∈ _ by decide)
  rw [← hs10] at Fs10
  have vs10 : iI s10 0 = 0 := by rw [hs10]; exact iI_u (by decide)
  have ws10_2 : iI s10 2 = iI s9 2 := by rw [hs10]; rfl
  have ws10_1 : iI s10 1 = iI s9 1 := by rw [hs10]; rfl
  have ws10_4 : iI s10 4 = iI s9 4 := by rw [hs10]; rfl
  have ws10_3 : iI s10 3 = iI s9 3 := by rw [hs10]; rfl
  have ws10_7 : iI s10 7 = iI s9 7 := by rw [hs10]; rfl
  have fs10 : Fm [0] [] s9 s10 := by rw [hs10]; exact fm_I (fm_rf _ _ _) (show 0 ∈ _ by decide)
  have JBYA_s10 : BYA B s10 := BYA_fm fs10 (by decide) JBYA_s9
  refine z_aload_n X (x := A 1) (show cdA 128 20 = some (.aload_n 0, 1, 0, 0, 0) from rfl) (List.Mem.head _) ?_
  refine z_const X (show cdA 128 21 = some (.iconst 0, 1, 0, 0, 0) from rfl) ?_
  refine s_putI X 1 (show cdA 128 22 = some (.putfield 36, 3, 10, 8, 0) from rfl) (by decide) rfl rfl (by decide) rfl rfl rfl ?_
  obtain ⟨s11, hs11⟩ : ∃ x0, x0 = uI s10 7 (Int32.ofInt 0) := ⟨_, rfl⟩
  rw [← hs11]
  have Is11 : Bd s11 := by rw [hs11]; exact bd_I Is10 (show (0 : Int) ≤ 0 ∧ 0 ≤ 9 by first | exact ⟨by decide, by decide⟩ | omega) (by decide)
  have Fs11 := fm_I (x := Int32.ofInt 0) Fs10 (show 7 ∈ _ by decide)
  rw [← hs11] at Fs11
  have vs11 : iI s11 7 = 0 := by rw [hs11]; exact iI_u (by decide)
  have ws11_0 : iI s11 0 = iI s10 0 := by rw [hs11]; rfl
  have ws11_2 : iI s11 2 = iI s10 2 := by rw [hs11]; rfl
  have ws11_1 : iI s11 1 = iI s10 1 := by rw [hs11]; rfl
  have ws11_4 : iI s11 4 = iI s10 4 := by rw [hs11]; rfl
  have ws11_3 : iI s11 3 = iI s10 3 := by rw [hs11]; rfl
  have fs11 : Fm [7] [] s10 s11 := by rw [hs11]; exact fm_I (fm_rf _ _ _) (show 7 ∈ _ by decide)
  have JBYA_s11 : BYA B s11 := BYA_fm fs11 (by decide) JBYA_s10
  refine z_aload_n X (x := A 1) (show cdA 128 25 = some (.aload_n 0, 1, 0, 0, 0) from rfl) (List.Mem.head _) ?_
  refine z_const X (show cdA 128 26 = some (.iconst (-1), 1, 0, 0, 0) from rfl) ?_
  refine s_putI X 1 (show cdA 128 27 = some (.putfield 15, 3, 10, 9, 0) from rfl) (by decide) rfl rfl (by decide) rfl rfl rfl ?_
  obtain ⟨s12, hs12⟩ : ∃ x0, x0 = uI s11 8 (Int32.ofInt (-1)) := ⟨_, rfl⟩
  rw [← hs12]
  have Is12 : Bd s12 := by rw [hs12]; exact bd_I Is11 (show ((-1) : Int) ≤ (-1) ∧ (-1) ≤ 200 by first | exact ⟨by decide, by decide⟩ | omega) (by decide)
  have Fs12 := fm_I (x := Int32.ofInt (-1)) Fs11 (show 8 ∈ _ by decide)
  rw [← hs12] at Fs12
  have vs12 : iI s12 8 = (-1) := by rw [hs12]; exact iI_u (by decide)
  have ws12_0 : iI s12 0 = iI s11 0 := by rw [hs12]; rfl
  have ws12_2 : iI s12 2 = iI s11 2 := by rw [hs12]; rfl
  have ws12_1 : iI s12 1 = iI s11 1 := by rw [hs12]; rfl
  have ws12_4 : iI s12 4 = iI s11 4 := by rw [hs12]; rfl
  have ws12_3 : iI s12 3 = iI s11 3 := by rw [hs12]; rfl
  have ws12_7 : iI s12 7 = iI s11 7 := by rw [hs12]; rfl
  have fs12 : Fm [8] [] s11 s12 := by rw [hs12]; exact fm_I (fm_rf _ _ _) (show 8 ∈ _ by decide)
  have JBYA_s12 : BYA B s12 := BYA_fm fs12 (by decide) JBYA_s11
  refine z_aload_n X (x := A 1) (show cdA 128 30 = some (.aload_n 0, 1, 0, 0, 0) from rfl) (List.Mem.head _) ?_
  have JBs12 : BYW B x s12 := ⟨JBYA_s12, by omega, by omega⟩
  refine z_callV X 1 (rm := rmN 129) (As := []) (st := []) (show cdA 128 31 = some (.invokevirtual 39, 3, 129, 0, 0) from rfl) rfl (by decide) rfl (by rw [E.1, E.2.1, E.2.2.1]; exact c10_step3 G Is12 JBs12 (by first | exact oq_c5d7b2c9 ws12_1 ws12_2 ws11_1 ws11_2 ws10_1 ws10_2 ws9_1 ws9_2 ws8_1 vs8 vs7 p0.1 | omega)) ⟨by rw [E.2.2.2]; exact (show (rmN 129).frames + 1 ≤ (rmN 128).frames by decide), by rw [E.2.2.2]; exact (show 8 + (mNL (miB 129) + 11) + (rmN 129).locals ≤ (rmN 128).locals by decide), by rw [E.2.2.2]; exact (show 0 + (rmN 129).cells ≤ (rmN 128).cells by decide), by rw [E.2.2.2]; exact (show 0 + (rmN 129).slots ≤ (rmN 128).slots by decide)⟩ (Nat.le_of_ble_eq_true rfl) (fun vv s13 hq => ?_) (fun ee s13 hq => ?_)
  rotate_left
  · obtain ⟨Is13, Fs13, JBYW_s13, JTKS_s13, hv, hps13⟩ := hq; cases hv
  obtain ⟨Is13, Fs13, JBYW_s13, JTKS_s13, hv, hps13⟩ := hq
  cases hv
  have Gs13 := fm_ts Fs12 Fs13 (by decide) (by decide)
  have JBYA_s13 : BYA B s13 := BYA_fm Fs13 (by decide) JBYA_s12
  have JBYW_s13 : BYW B x s13 := BYW_fm Fs13 (by decide) JBs12
  have ws13_0 : iI s13 0 = iI s12 0 := fm_i Fs13 (by decide)
  have b15 : (0 : Int) ≤ iI s13 2 ∧ iI s13 2 ≤ 200 := Is13.1 2
  have ws13_1 : iI s13 1 = iI s12 1 := fm_i Fs13 (by decide)
  have b16 : (0 : Int) ≤ iI s13 4 ∧ iI s13 4 ≤ 200 := Is13.1 4
  have ws13_3 : iI s13 3 = iI s12 3 := fm_i Fs13 (by decide)
  have ws13_7 : iI s13 7 = iI s12 7 := fm_i Fs13 (by decide)
  show WS k 34 [(0, .ref (A 1)), (1, .int (Int32.ofInt x)), (2, .int (Int32.ofInt y))] [] (Wd A dT s13) 0 0
  exact w_vret X.1 q hRt (ax_d X (show cdA 128 34 = some (.return_, 1, 0, 0, 0) from rfl)) (Nat.zero_le _) (Nat.zero_le _) ⟨_, rfl, Is13, Gs13, JBYW_s13, JTKS_s13, rfl, ⟨by first | exact oq_264718cb ws13_0 ws12_0 ws11_0 vs10 | omega, by first | exact hps13.1 | omega, by first | exact hps13.2.1 | omega, by rw [hps13.2.2.1, show iI s12 2 = 0 by omega], by first | exact oq_cd9cbf39 ws13_7 ws12_7 vs11 | omega⟩⟩
set_option maxRecDepth 4000 in
theorem c10_refuseAt3 (G : GX l s0 D tys a0 dT) (I : Bd s) {x y : Int} (p0 : 1 ≤ x ∧ x ≤ 4) (p1 : 0 ≤ y ∧ y ≤ 200) : CT l s0 D A dT 133 (rmN 133) [.ref (A 1), .int (Int32.ofInt x), .int (Int32.ofInt y)] s (fun o t => Bd t ∧ Fm [7, 8] [] s t ∧ ∃ e, o = .inl (some (.int (Int32.ofInt e))) ∧ rng e ∧ (e = 0 ∧ iI t 7 = x)) := by
  refine ct_ofX G (by decide) (Nat.le_of_ble_eq_true rfl) (fun k X E ET hRt hXt q => ?_)
  show WS k 0 [(0, .ref (A 1)), (1, .int (Int32.ofInt x)), (2, .int (Int32.ofInt y))] [] _ 0 0
  have F : Fm [7, 8] [] s s := fm_rf _ _ s
  have b1 : (0 : Int) ≤ iI s 7 ∧ iI s 7 ≤ 9 := I.1 7
  refine z_aload_n X (x := A 1) (show cdA 133 0 = some (.aload_n 0, 1, 0, 0, 0) from rfl) (List.Mem.head _) ?_
  refine z_load_n X (x := x) (show cdA 133 1 = some (.iload_n 1, 1, 0, 0, 0) from rfl) (List.Mem.tail _ (List.Mem.head _)) ?_
  refine s_putI X 1 (show cdA 133 2 = some (.putfield 36, 3, 10, 8, 0) from rfl) (by decide) rfl rfl (by decide) rfl rfl rfl ?_
  obtain ⟨s2, hs2⟩ : ∃ x0, x0 = uI s 7 (Int32.ofInt x) := ⟨_, rfl⟩
  rw [← hs2]
  have Is2 : Bd s2 := by rw [hs2]; exact bd_I I (show (0 : Int) ≤ x ∧ x ≤ 9 by first | exact ⟨oq_2a6e3b50 p0.1, oq_aac78eb5 p0.2⟩ | omega) ⟨by first | exact oq_9462313e p0.1 | omega, by first | exact oq_4a4414da p0.2 | omega⟩
  have Fs2 := fm_I (x := Int32.ofInt x) F (show 7 ∈ _ by decide)
  rw [← hs2] at Fs2
  have vs2 : iI s2 7 = x := by rw [hs2]; exact iI_u ⟨by first | exact oq_9462313e p0.1 | omega, by first | exact oq_4a4414da p0.2 | omega⟩
  refine z_aload_n X (x := A 1) (show cdA 133 5 = some (.aload_n 0, 1, 0, 0, 0) from rfl) (List.Mem.head _) ?_
  refine z_load_n X (x := y) (show cdA 133 6 = some (.iload_n 2, 1, 0, 0, 0) from rfl) (List.Mem.tail _ (List.Mem.tail _ (List.Mem.head _))) ?_
  refine s_putI X 1 (show cdA 133 7 = some (.putfield 15, 3, 10, 9, 0) from rfl) (by decide) rfl rfl (by decide) rfl rfl rfl ?_
  obtain ⟨s3, hs3⟩ : ∃ x0, x0 = uI s2 8 (Int32.ofInt y) := ⟨_, rfl⟩
  rw [← hs3]
  have Is3 : Bd s3 := by rw [hs3]; exact bd_I Is2 (show ((-1) : Int) ≤ y ∧ y ≤ 200 by first | exact ⟨oq_ca54ea22 p1.1, p1.2⟩ | omega) ⟨by first | exact oq_fa4e5087 p1.1 | omega, by first | exact oq_52af2b96 p1.2 | omega⟩
  have Fs3 := fm_I (x := Int32.ofInt y) Fs2 (show 8 ∈ _ by decide)
  rw [← hs3] at Fs3
  have vs3 : iI s3 8 = y := by rw [hs3]; exact iI_u ⟨by first | exact oq_fa4e5087 p1.1 | omega, by first | exact oq_52af2b96 p1.2 | omega⟩
  have ws3_7 : iI s3 7 = iI s2 7 := by rw [hs3]; rfl
  refine z_const X (show cdA 133 10 = some (.iconst 0, 1, 0, 0, 0) from rfl) ?_
  exact w_iret X.1 q hRt (nar_ret (by first | exact Or.inl (by decide) | omega)) (ax_d X (show cdA 133 11 = some (.ireturn, 1, 0, 0, 0) from rfl)) (Nat.zero_le _) (Nat.zero_le _) ⟨_, rfl, Is3, Fs3, 0, rfl, (by decide), by first | exact ⟨by decide, oq_1aa5be9e ws3_7 vs2⟩ | omega⟩
set_option maxRecDepth 4000 in
theorem c10_refuse3 (G : GX l s0 D tys a0 dT) (I : Bd s) {x : Int} (p0 : 1 ≤ x ∧ x ≤ 4) : CT l s0 D A dT 132 (rmN 132) [.ref (A 1), .int (Int32.ofInt x)] s (fun o t => Bd t ∧ Fm [7, 8] [] s t ∧ ∃ e, o = .inl (some (.int (Int32.ofInt e))) ∧ rng e ∧ (e = 0 ∧ iI t 7 = x)) := by
  refine ct_ofX G (by decide) (Nat.le_of_ble_eq_true rfl) (fun k X E ET hRt hXt q => ?_)
  show WS k 0 [(0, .ref (A 1)), (1, .int (Int32.ofInt x))] [] _ 0 0
  have F : Fm [7, 8] [] s s := fm_rf _ _ s
  have b1 : (0 : Int) ≤ iI s 7 ∧ iI s 7 ≤ 9 := I.1 7
  refine z_aload_n X (x := A 1) (show cdA 132 0 = some (.aload_n 0, 1, 0, 0, 0) from rfl) (List.Mem.head _) ?_
  refine z_load_n X (x := x) (show cdA 132 1 = some (.iload_n 1, 1, 0, 0, 0) from rfl) (List.Mem.tail _ (List.Mem.head _)) ?_
  refine z_aload_n X (x := A 1) (show cdA 132 2 = some (.aload_n 0, 1, 0, 0, 0) from rfl) (List.Mem.head _) ?_
  refine z_getI X 1 (show cdA 132 3 = some (.getfield 42, 3, 10, 5, 0) from rfl) (by decide) rfl rfl ?_
  have b2 : (0 : Int) ≤ iI s 4 ∧ iI s 4 ≤ 200 := I.1 4
  refine z_callV X 1 (rm := rmN 133) (As := [.int (Int32.ofInt x), .int (Int32.ofInt (iI s 4))]) (st := []) (show cdA 132 6 = some (.invokevirtual 72, 3, 133, 0, 0) from rfl) rfl (by decide) rfl (by rw [E.1, E.2.1, E.2.2.1]; exact c10_refuseAt3 G I (by first | exact ⟨p0.1, p0.2⟩ | omega) (by first | exact ⟨b2.1, b2.2⟩ | omega)) ⟨by rw [E.2.2.2]; exact (show (rmN 133).frames + 1 ≤ (rmN 132).frames by decide), by rw [E.2.2.2]; exact (show 8 + (mNL (miB 133) + 11) + (rmN 133).locals ≤ (rmN 132).locals by decide), by rw [E.2.2.2]; exact (show 0 + (rmN 133).cells ≤ (rmN 132).cells by decide), by rw [E.2.2.2]; exact (show 0 + (rmN 133).slots ≤ (rmN 132).slots by decide)⟩ (Nat.le_of_ble_eq_true rfl) (fun vv s3 hq => ?_) (fun ee s3 hq => ?_)
  rotate_left
  · obtain ⟨Is3, Fs3, e4, hv, hrs3, hps3⟩ := hq; cases hv
  obtain ⟨Is3, Fs3, e4, hv, hrs3, hps3⟩ := hq
  cases hv
  have Gs3 := fm_ts F Fs3 (by decide) (by decide)
  have b5 : (0 : Int) ≤ iI s3 7 ∧ iI s3 7 ≤ 9 := Is3.1 7
  show WS k 9 [(0, .ref (A 1)), (1, .int (Int32.ofInt x))] [.int (Int32.ofInt e4)] (Wd A dT s3) 0 0
  exact w_iret X.1 q hRt (nar_ret (by first | exact Or.inl (hps3.1) | omega)) (ax_d X (show cdA 132 9 = some (.ireturn, 1, 0, 0, 0) from rfl)) (Nat.zero_le _) (Nat.zero_le _) ⟨_, rfl, Is3, Gs3, e4, rfl, hrs3, by first | exact ⟨hps3.1, hps3.2⟩ | omega⟩
set_option maxRecDepth 4000 in
theorem j_latc3 (G : GX l s0 D tys a0 dT) (SF : SF0 s0) {q1 n1 : Nat} {g1 : Nat → Int} (hn1 : n1 ≤ 6) (hg1 : gOK g1) (hT1 : va_T .byte q1 n1 (fun j => .int (Int32.ofInt (g1 j))) (mb_F s0) s0 s0.heap) (I : Bd s) {x : Int} (p0 : 0 ≤ x ∧ x < (n1 : Int)) : CTR l s0 D A dT 307 (some .char) (rmN 307) [.ref q1, .int (Int32.ofInt x)] s (fun o t => Bd t ∧ Fm [] [] s t ∧ ∃ e, o = .inl (some (.int (Int32.ofInt e))) ∧ rng e ∧ (0 ≤ e ∧ e ≤ 127 ∧ e = g1 x.toNat)) := by
  refine ct_ofR G (by decide) (Nat.le_of_ble_eq_true rfl) (fun k X E ET hRt hXt q => ?_)
  show WS k 0 [(0, .ref q1), (1, .int (Int32.ofInt x))] [] _ 0 0
  have F : Fm [] [] s s := fm_rf _ _ s
  have hT1k := hT1
  rw [← E.2.1] at hT1k
  refine w_iload_n X.1 (x := Int32.ofInt x) (show decode (kCc k) 0 = .ok (.iload_n 1, 1) by rw [X.2.1.1]; decide +kernel) (List.Mem.tail _ (List.Mem.head _)) ?_
  refine w_aload_n X.1 (x := q1) (show decode (kCc k) 1 = .ok (.aload_n 0, 1) by rw [X.2.1.1]; decide +kernel) (List.Mem.head _) ?_
  refine y_tlen X (show decode (kCc k) 2 = .ok (.arraylength, 1) by rw [X.2.1.1]; decide +kernel) hT1k (n := (n1 : Int)) (len_of hn1) ?_
  refine z_callSK X (rm := rmN 306) (As := [.int (Int32.ofInt x), .int (Int32.ofInt (n1 : Int))]) (st := []) (show decode (kCc k) 3 = .ok (.invokestatic 9, 3) by rw [X.2.1.1]; decide +kernel) cw_chk (by rw [E.1, E.2.1, E.2.2.1]; exact j_chk G SF I (by omega) (by omega)) ⟨by rw [E.2.2.2]; exact (show (rmN 306).frames + 1 ≤ (rmN 307).frames by decide), by rw [E.2.2.2]; exact (show 8 + (mNL (miB 306) + 11) + (rmN 306).locals ≤ (rmN 307).locals by decide), by rw [E.2.2.2]; exact (show 0 + (rmN 306).cells ≤ (rmN 307).cells by decide), by rw [E.2.2.2]; exact (show 0 + (rmN 306).slots ≤ (rmN 307).slots by decide)⟩ (Nat.le_of_ble_eq_true rfl) (fun vv s1 hq => ?_) (fun ee s1 hq => ?_)
  rotate_left
  · obtain ⟨Is1, Fs1, hv, hps1⟩ := hq; cases hv
  obtain ⟨Is1, Fs1, hv, hps1⟩ := hq
  cases hv
  have Gs1 := fm_ts F Fs1 (by decide) (by decide)
  show WS k 6 [(0, .ref q1), (1, .int (Int32.ofInt x))] [] (Wd A dT s1) 0 0
  refine w_aload_n X.1 (x := q1) (show decode (kCc k) 6 = .ok (.aload_n 0, 1) by rw [X.2.1.1]; decide +kernel) (List.Mem.head _) ?_
  refine w_iload_n X.1 (x := Int32.ofInt x) (show decode (kCc k) 7 = .ok (.iload_n 1, 1) by rw [X.2.1.1]; decide +kernel) (List.Mem.tail _ (List.Mem.head _)) ?_
  refine w_tbK3 X hT1k (show 0 ≤ x ∧ x < (n1 : Int) by omega) hn1 (show decode (kCc k) 8 = .ok (.baload, 1) by rw [X.2.1.1]; decide +kernel) ?_
  obtain ⟨e3, he3⟩ : ∃ e : Int, e = g1 (x).toNat := ⟨_, rfl⟩
  rw [← he3]
  have ie3 := hg1 (x).toNat
  rw [← he3] at ie3
  refine w_255 X (show 0 ≤ e3 ∧ e3 ≤ 127 by omega) (show decode (kCc k) 9 = .ok (.sipush 255, 3) by rw [X.2.1.1]; decide +kernel) (show decode (kCc k) 12 = .ok (.iand, 1) by rw [X.2.1.1]; decide +kernel) (show decode (kCc k) 13 = .ok (.i2c, 1) by rw [X.2.1.1]; decide +kernel) ?_
  exact w_iret X.1 q hRt (nar_ch (by omega)) (show decode (kCc k) 14 = .ok (.ireturn, 1) by rw [X.2.1.1]; decide +kernel) (Nat.zero_le _) (Nat.zero_le _) ⟨_, rfl, Is1, Gs1, e3, rfl, ⟨by omega, by omega⟩, by omega⟩
set_option maxRecDepth 4000 in
theorem j_char3 (G : GX l s0 D tys a0 dT) (SF : SF0 s0) {q1 n1 : Nat} {g1 : Nat → Int} (hs1 : StrA s0 q1 n1) (hn1 : n1 ≤ 6) (hg1 : gOK g1) {q2 : Nat} (hO1 : va_O "java/lang/String" q1 (mb_F s0) s0 s0.heap) (hc1 : va_OF "java/lang/String" "coder" "B" (.int (Int32.ofInt 0)) q1 (mb_F s0) s0 s0.heap) (hv1 : va_OF "java/lang/String" "value" "[B" (.ref q2) q1 (mb_F s0) s0 s0.heap) (hT1 : va_T .byte q2 n1 (fun j => .int (Int32.ofInt (g1 j))) (mb_F s0) s0 s0.heap) (I : Bd s) {x : Int} (p0 : 0 ≤ x ∧ x < (n1 : Int)) : CTR l s0 D A dT 303 (some .char) (rmN 303) [.ref q1, .int (Int32.ofInt x)] s (fun o t => Bd t ∧ Fm [] [] s t ∧ ∃ e, o = .inl (some (.int (Int32.ofInt e))) ∧ rng e ∧ (0 ≤ e ∧ e ≤ 127 ∧ e = g1 x.toNat)) := by
  refine ct_ofR G (by decide) (Nat.le_of_ble_eq_true rfl) (fun k X E ET hRt hXt q => ?_)
  show WS k 0 [(0, .ref q1), (1, .int (Int32.ofInt x))] [] _ 0 0
  have F : Fm [] [] s s := fm_rf _ _ s
  have hO1k := hO1
  have hc1k := hc1
  have hv1k := hv1
  have hT1k := hT1
  have hZ1k := SF.1
  rw [← E.2.1] at hO1k hc1k hv1k hT1k hZ1k
  refine w_aload_n X.1 (x := q1) (show decode (kCc k) 0 = .ok (.aload_n 0, 1) by rw [X.2.1.1]; decide +kernel) (List.Mem.head _) ?_
  refine z_callK X (rm := rmN 305) (As := []) (st := []) (show decode (kCc k) 1 = .ok (.invokevirtual 492, 3) by rw [X.2.1.1]; decide +kernel) cw_lat hO1k (by rw [E.1, E.2.1, E.2.2.1]; exact j_lat1 G SF hs1 I) ⟨by rw [E.2.2.2]; exact (show (rmN 305).frames + 1 ≤ (rmN 303).frames by decide), by rw [E.2.2.2]; exact (show 8 + (mNL (miB 305) + 11) + (rmN 305).locals ≤ (rmN 303).locals by decide), by rw [E.2.2.2]; exact (show 0 + (rmN 305).cells ≤ (rmN 303).cells by decide), by rw [E.2.2.2]; exact (show 0 + (rmN 305).slots ≤ (rmN 303).slots by decide)⟩ (Nat.le_of_ble_eq_true rfl) (fun vv s1 hq => ?_) (fun ee s1 hq => ?_)
  rotate_left
  · obtain ⟨rfl, e2, hv, hrs1, hps1⟩ := hq; cases hv
  obtain ⟨rfl, e2, hv, hrs1, hps1⟩ := hq
  cases hv
  show WS k 4 [(0, .ref q1), (1, .int (Int32.ofInt x))] [.int (Int32.ofInt e2)] (Wd A dT s) 0 0
  refine y_if_eq X.1 (t := 16) (show decode (kCc k) 4 = .ok (.ifCond .eq 12, 3) by rw [X.2.1.1]; decide +kernel) (by decide) ⟨by omega, by omega⟩ (fun g3 => ?_) (fun g3 => ?_)
  ·
    exfalso
    omega
  ·
    refine w_aload_n X.1 (x := q1) (show decode (kCc k) 7 = .ok (.aload_n 0, 1) by rw [X.2.1.1]; decide +kernel) (List.Mem.head _) ?_
    refine w_getfK X hv1k (by rw [X.2.1.2.1]; exact chkW_ok (p := (11, 2)) (by decide +kernel)) (show decode (kCc k) 8 = .ok (.getfield 9, 3) by rw [X.2.1.1]; decide +kernel) ?_
    refine w_iload_n X.1 (x := Int32.ofInt x) (show decode (kCc k) 11 = .ok (.iload_n 1, 1) by rw [X.2.1.1]; decide +kernel) (List.Mem.tail _ (List.Mem.head _)) ?_
    refine z_callSK X (rm := rmN 307) (As := [.ref q2, .int (Int32.ofInt x)]) (st := []) (show decode (kCc k) 12 = .ok (.invokestatic 495, 3) by rw [X.2.1.1]; decide +kernel) cw_lch (by rw [E.1, E.2.1, E.2.2.1]; exact j_latc3 G SF hn1 hg1 hT1 I (by first | exact ⟨p0.1, p0.2⟩ | omega)) ⟨by rw [E.2.2.2]; exact (show (rmN 307).frames + 1 ≤ (rmN 303).frames by decide), by rw [E.2.2.2]; exact (show 8 + (mNL (miB 307) + 11) + (rmN 307).locals ≤ (rmN 303).locals by decide), by rw [E.2.2.2]; exact (show 0 + (rmN 307).cells ≤ (rmN 303).cells by decide), by rw [E.2.2.2]; exact (show 0 + (rmN 307).slots ≤ (rmN 303).slots by decide)⟩ (Nat.le_of_ble_eq_true rfl) (fun vv s4 hq => ?_) (fun ee s4 hq => ?_)
    rotate_left
    · obtain ⟨Is4, Fs4, e5, hv, hrs4, hps4⟩ := hq; cases hv
    obtain ⟨Is4, Fs4, e5, hv, hrs4, hps4⟩ := hq
    cases hv
    have Gs4 := fm_ts F Fs4 (by decide) (by decide)
    show WS k 15 [(0, .ref q1), (1, .int (Int32.ofInt x))] [.int (Int32.ofInt e5)] (Wd A dT s4) 0 0
    exact w_iret X.1 q hRt (nar_ch (by omega)) (show decode (kCc k) 15 = .ok (.ireturn, 1) by rw [X.2.1.1]; decide +kernel) (Nat.zero_le _) (Nat.zero_le _) ⟨_, rfl, Is4, Gs4, e5, rfl, ⟨by omega, by omega⟩, by omega⟩
set_option maxRecDepth 4000 in
theorem c10_says3 (G : GX l s0 D tys a0 dT) {B : Nat → Int} {N : Int} (SF : SF0 s0) {q1 : Nat} {L1 : List Nat} (hs3 : StrL s0 q1 L1) (hl1 : okL L1 = true) (I : Bd s) (jBYW : BYW B N s) (jTKS : TKS B N s) (p0 : iI s 4 ≤ iI s 2) : CT l s0 D A dT 131 (rmN 131) [.ref (A 1), .ref q1] s (fun o t => Bd t ∧ Fm [] [] s t ∧ BYW B N t ∧ TKS B N t ∧ ∃ e, o = .inl (some (.int (Int32.ofInt e))) ∧ rng e ∧ ((e = 1 ∧ whV B N (iI s 4) = whL L1 0) ∨ (e = 0 ∧ whV B N (iI s 4) ≠ whL L1 0))) := by
  refine ct_ofX G (by decide) (Nat.le_of_ble_eq_true rfl) (fun k X E ET hRt hXt q => ?_)
  show WS k 0 [(0, .ref (A 1)), (1, .ref q1)] [] _ 0 0
  have F : Fm [] [] s s := fm_rf _ _ s
  have hs1 := strL_A hs3 hl1
  have ho1 := okL_all hl1
  obtain ⟨q2, hO1, hc1, hv1, hT1⟩ := id hs3
  have hn1 := ho1.2.1
  have hg1 : gOK (fun j => (L1.getD j 0 : Nat)) := fun j => (show 0 ≤ ((L1.getD j 0 : Nat) : Int) ∧ ((L1.getD j 0 : Nat) : Int) ≤ 127 from ⟨by omega, by have := ho1.2.2 j; omega⟩)
  have hO1k := hO1
  have hc1k := hc1
  have hv1k := hv1
  have hT1k := hT1
  have hZ1k := SF.1
  rw [← E.2.1] at hO1k hc1k hv1k hT1k hZ1k
  have hN := jBYW.2.1
  have hW := jBYW.2.2
  obtain ⟨n1, hn9⟩ : ∃ n : Nat, n = L1.length := ⟨_, rfl⟩
  rw [← hn9] at hs1 hn1 hT1 hT1k
  have b1 : (0 : Int) ≤ iI s 2 ∧ iI s 2 ≤ 200 := I.1 2
  have b2 : (0 : Int) ≤ iI s 4 ∧ iI s 4 ≤ 200 := I.1 4
  have b3 : ((-3) : Int) ≤ iI s 5 ∧ iI s 5 ≤ 255 := I.1 5
  have b4 : (0 : Int) ≤ iI s 1 ∧ iI s 1 ≤ 200 := I.1 1
  have L29 : ∀ (n : Nat) (t : PS) (c : Int), Bd t → Fm [] [] s t → BYW B N t → TKS B N t → (∀ i : Nat, (i : Int) < c → B (iI s 4 + i).toNat = (L1.getD i 0 : Nat)) → (0 ≤ c ∧ c ≤ (n1 : Int) ∧ iI t 2 - iI t 4 = (n1 : Int) ∧ n1 ≤ 6 ∧ iI t 4 = iI s 4 ∧ iI t 2 = iI s 2 ∧ iI s 5 = -3) → ((n1 : Int) - c : Int).toNat < n → (∀ (t' : PS) (c' : Int), Bd t' → Fm [] [] s t' → BYW B N t' → TKS B N t' → (∀ i : Nat, (i : Int) < c' → B (iI s 4 + i).toNat = (L1.getD i 0 : Nat)) → ((n1 : Int) ≤ c' ∧ iI s 2 - iI s 4 = (n1 : Int) ∧ iI s 5 = -3) → WS k 64 [(0, .ref (A 1)), (1, .ref q1), (2, .int (Int32.ofInt c'))] [] (Wd A dT t') 0 0) → WS k 29 [(0, .ref (A 1)), (1, .ref q1), (2, .int (Int32.ofInt c))] [] (Wd A dT t) 0 0 := by
    intro n
    induction n with
    | zero =>
      intro t c I F jjBYW jjTKS hq hi hm kx
      exact absurd hm (Nat.not_lt_zero _)
    | succ n ih =>
      intro t c I F jjBYW jjTKS hq hi hm kx
      have b1001 : (0 : Int) ≤ iI t 2 ∧ iI t 2 ≤ 200 := I.1 2
      have b1002 : (0 : Int) ≤ iI t 4 ∧ iI t 4 ≤ 200 := I.1 4
      have b1003 : ((-3) : Int) ≤ iI t 5 ∧ iI t 5 ≤ 255 := I.1 5
      have b1004 : (0 : Int) ≤ iI t 1 ∧ iI t 1 ≤ 200 := I.1 1
      have hN := jjBYW.2.1
      have hW := jjBYW.2.2
      refine z_load_n X (x := c) (show cdA 131 29 = some (.iload_n 2, 1, 0, 0, 0) from rfl) (List.Mem.tail _ (List.Mem.tail _ (List.Mem.head _))) ?_
      refine z_aload_n X (x := q1) (show cdA 131 30 = some (.aload_n 1, 1, 0, 0, 0) from rfl) (List.Mem.tail _ (List.Mem.head _)) ?_
      refine z_callK X (rm := rmN 302) (As := []) (st := [.int (Int32.ofInt c)]) (show decode (kCc k) 31 = .ok (.invokevirtual 62, 3) by rw [X.2.1.1]; decide +kernel) cw_len hO1k (by rw [E.1, E.2.1, E.2.2.1]; exact j_len G SF hs1 I) ⟨by rw [E.2.2.2]; exact (show (rmN 302).frames + 1 ≤ (rmN 131).frames by decide), by rw [E.2.2.2]; exact (show 8 + (mNL (miB 302) + 11) + (rmN 302).locals ≤ (rmN 131).locals by decide), by rw [E.2.2.2]; exact (show 0 + (rmN 302).cells ≤ (rmN 131).cells by decide), by rw [E.2.2.2]; exact (show 0 + (rmN 302).slots ≤ (rmN 131).slots by decide)⟩ (Nat.le_of_ble_eq_true rfl) (fun vv s1005 hq => ?_) (fun ee s1005 hq => ?_)
      rotate_left
      · obtain ⟨rfl, e1006, hv, hrs1005, hps1005⟩ := hq; cases hv
      obtain ⟨rfl, e1006, hv, hrs1005, hps1005⟩ := hq
      cases hv
      show WS k 34 [(0, .ref (A 1)), (1, .ref q1), (2, .int (Int32.ofInt c))] [.int (Int32.ofInt e1006), .int (Int32.ofInt c)] (Wd A dT t) 0 0
      refine z_icmp_ge X (t := 64) (show cdA 131 34 = some (.if_icmp .ge 30, 3, 3, 0, 0) from rfl) (by decide) ⟨by first | exact oq_fa4e5087 hi.1 | omega, by first | exact oq_a893734d hi.2.1 hi.2.2.2.1 | omega⟩ ⟨by omega, by omega⟩ (fun g1007 => ?_) (fun g1007 => ?_)
      ·
        refine WS_lv (lv := [(0, .ref (A 1)), (1, .ref q1), (2, .int (Int32.ofInt c))]) (List.forall_mem_cons.mpr ⟨(List.Mem.head _), (List.forall_mem_cons.mpr ⟨(List.Mem.tail _ (List.Mem.head _)), (List.forall_mem_cons.mpr ⟨(List.Mem.tail _ (List.Mem.tail _ (List.Mem.head _))), (fun q h => absurd h List.not_mem_nil)⟩)⟩)⟩) ?_
        exact kx _ c I F jjBYW jjTKS hq (by first | exact ⟨by omega, oq_8406d934 hi.2.2.1 hi.2.2.2.2.2.1 hi.2.2.2.2.1, hi.2.2.2.2.2.2⟩ | omega)
      ·
        refine z_aload_n X (x := A 1) (show cdA 131 37 = some (.aload_n 0, 1, 0, 0, 0) from rfl) (List.Mem.head _) ?_
        refine s_getR X 1 (show cdA 131 38 = some (.getfield 11, 3, 10, 0, 0) from rfl) (by decide) rfl rfl ?_
        refine z_aload_n X (x := A 1) (show cdA 131 41 = some (.aload_n 0, 1, 0, 0, 0) from rfl) (List.Mem.head _) ?_
        refine z_getI X 1 (show cdA 131 42 = some (.getfield 42, 3, 10, 5, 0) from rfl) (by decide) rfl rfl ?_
        have b1008 : (0 : Int) ≤ iI t 4 ∧ iI t 4 ≤ 200 := I.1 4
        refine z_load_n X (x := c) (show cdA 131 45 = some (.iload_n 2, 1, 0, 0, 0) from rfl) (List.Mem.tail _ (List.Mem.tail _ (List.Mem.head _))) ?_
        refine z_add X (show cdA 131 46 = some (.iadd, 1, 0, 0, 0) from rfl) ?_
        refine z_ald X 2 (show cdA 131 47 = some (.iaload, 1, 0, 0, 0) from rfl) (by decide) rfl (by first | exact oq_d8d6a599 hi.1 b1008.1 | omega) (show ((iI t 4) + c) < 200 by omega) (by decide) ?_
        have b1009 : (0 : Int) ≤ iC t 0 (((iI t 4) + c)).toNat ∧ iC t 0 (((iI t 4) + c)).toNat ≤ 255 := I.2 0 _ (show (((iI t 4) + c)).toNat < 200 by omega)
        have fb1010 : iC t 0 (((iI t 4) + c)).toNat = B (((iI t 4) + c)).toNat := jjBYW.1 _ (by omega)
        refine z_aload_n X (x := q1) (show cdA 131 48 = some (.aload_n 1, 1, 0, 0, 0) from rfl) (List.Mem.tail _ (List.Mem.head _)) ?_
        refine z_load_n X (x := c) (show cdA 131 49 = some (.iload_n 2, 1, 0, 0, 0) from rfl) (List.Mem.tail _ (List.Mem.tail _ (List.Mem.head _))) ?_
        refine z_callK X (rm := rmN 303) (As := [.int (Int32.ofInt c)]) (st := [.int (Int32.ofInt (iC t 0 (((iI t 4) + c)).toNat))]) (show decode (kCc k) 50 = .ok (.invokevirtual 68, 3) by rw [X.2.1.1]; decide +kernel) cw_cha hO1k (by rw [E.1, E.2.1, E.2.2.1]; exact j_char3 G SF hs1 hn1 hg1 hO1 hc1 hv1 hT1 I (by omega)) ⟨by rw [E.2.2.2]; exact (show (rmN 303).frames + 1 ≤ (rmN 131).frames by decide), by rw [E.2.2.2]; exact (show 8 + (mNL (miB 303) + 11) + (rmN 303).locals ≤ (rmN 131).locals by decide), by rw [E.2.2.2]; exact (show 0 + (rmN 303).cells ≤ (rmN 131).cells by decide), by rw [E.2.2.2]; exact (show 0 + (rmN 303).slots ≤ (rmN 131).slots by decide)⟩ (Nat.le_of_ble_eq_true rfl) (fun vv s1011 hq => ?_) (fun ee s1011 hq => ?_)
        rotate_left
        · obtain ⟨Is1011, Fs1011, e1012, hv, hrs1011, hps1011⟩ := hq; cases hv
        obtain ⟨Is1011, Fs1011, e1012, hv, hrs1011, hps1011⟩ := hq
        cases hv
        have Gs1011 := fm_ts F Fs1011 (by decide) (by decide)
        have ws1011_2 : iI s1011 2 = iI t 2 := fm_i Fs1011 (by decide)
        have ws1011_4 : iI s1011 4 = iI t 4 := fm_i Fs1011 (by decide)
        have ws1011_5 : iI s1011 5 = iI t 5 := fm_i Fs1011 (by decide)
        have ws1011_1 : iI s1011 1 = iI t 1 := fm_i Fs1011 (by decide)
        have JBYW_s1011 : BYW B N s1011 := BYW_fm Fs1011 (by decide) jjBYW
        have JTKS_s1011 : TKS B N s1011 := TKS_fm Fs1011 (by decide) jjTKS
        show WS k 53 [(0, .ref (A 1)), (1, .ref q1), (2, .int (Int32.ofInt c))] [.int (Int32.ofInt e1012), .int (Int32.ofInt (iC t 0 (((iI t 4) + c)).toNat))] (Wd A dT s1011) 0 0
        have hch : e1012 = (L1.getD (c).toNat 0 : Nat) := hps1011.2.2
        refine z_icmp_eq X (t := 58) (show cdA 131 53 = some (.if_icmp .eq 5, 3, 0, 0, 0) from rfl) (by decide) (rng_to _) ⟨by omega, by omega⟩ (fun g1013 => ?_) (fun g1013 => ?_)
        ·
          refine z_inc X (x := c) (lv' := [(2, .int (Int32.ofInt (c + 1))), (0, .ref (A 1)), (1, .ref q1)]) (show cdA 131 58 = some (.iinc 2 1, 3, 0, 0, 0) from rfl) (by decide) (List.Mem.tail _ (List.Mem.tail _ (List.Mem.head _))) (fun _ h => h) ?_
          refine z_goto X (t := 29) (show cdA 131 61 = some (.goto (-32), 3, 0, 0, 0) from rfl) (by decide) ?_
          refine WS_lv (lv := [(0, .ref (A 1)), (1, .ref q1), (2, .int (Int32.ofInt (c + 1)))]) (List.forall_mem_cons.mpr ⟨(List.Mem.tail _ (List.Mem.head _)), (List.forall_mem_cons.mpr ⟨(List.Mem.tail _ (List.Mem.tail _ (List.Mem.head _))), (List.forall_mem_cons.mpr ⟨(List.Mem.head _), (fun q h => absurd h List.not_mem_nil)⟩)⟩)⟩) ?_
          exact ih _ (c + 1) Is1011 Gs1011 JBYW_s1011 JTKS_s1011 (sy_up (by omega) hq (by rw [← hch, show iI s 4 + c = iI t 4 + c by omega]; omega)) (by first | exact ⟨oq_54f49eb5 hi.1, by omega, oq_3c8fd887 ws1011_2 ws1011_4 hi.2.2.1, hi.2.2.2.1, oq_1aa5be9e ws1011_4 hi.2.2.2.2.1, oq_1aa5be9e ws1011_2 hi.2.2.2.2.2.1, hi.2.2.2.2.2.2⟩ | omega) (by omega) kx
        ·
          refine z_const X (show cdA 131 56 = some (.iconst 0, 1, 0, 0, 0) from rfl) ?_
          exact w_iret X.1 q hRt (nar_ret (by first | exact Or.inl (by decide) | omega)) (ax_d X (show cdA 131 57 = some (.ireturn, 1, 0, 0, 0) from rfl)) (Nat.zero_le _) (Nat.zero_le _) ⟨_, rfl, Is1011, Gs1011, JBYW_s1011, JTKS_s1011, 0, rfl, (by decide), Or.inr ⟨rfl, sy_ne hl1 (c := c) (by omega) (by omega) (by rw [show iI s 4 + c = iI t 4 + c by omega]; omega)⟩⟩
  refine z_aload_n X (x := A 1) (show cdA 131 0 = some (.aload_n 0, 1, 0, 0, 0) from rfl) (List.Mem.head _) ?_
  refine z_getI X 1 (show cdA 131 1 = some (.getfield 52, 3, 10, 6, 0) from rfl) (by decide) rfl rfl ?_
  have b5 : ((-3) : Int) ≤ iI s 5 ∧ iI s 5 ≤ 255 := I.1 5
  refine z_bipush X (show cdA 131 4 = some (.bipush (-3), 2, 0, 0, (-3)) from rfl) ?_
  refine z_icmp_ne X (t := 25) (show cdA 131 6 = some (.if_icmp .ne 19, 3, 1, 0, 0) from rfl) (by decide) (rng_to _) (by decide) (fun g6 => ?_) (fun g6 => ?_)
  ·
    refine z_const X (show cdA 131 25 = some (.iconst 0, 1, 0, 0, 0) from rfl) ?_
    exact w_iret X.1 q hRt (nar_ret (by first | exact Or.inl (by decide) | omega)) (ax_d X (show cdA 131 26 = some (.ireturn, 1, 0, 0, 0) from rfl)) (Nat.zero_le _) (Nat.zero_le _) ⟨_, rfl, I, F, jBYW, jTKS, 0, rfl, (by decide), Or.inr ⟨rfl, sy_no jTKS hl1 (by omega)⟩⟩
  ·
    refine z_aload_n X (x := A 1) (show cdA 131 9 = some (.aload_n 0, 1, 0, 0, 0) from rfl) (List.Mem.head _) ?_
    refine z_getI X 1 (show cdA 131 10 = some (.getfield 29, 3, 10, 3, 0) from rfl) (by decide) rfl rfl ?_
    have b7 : (0 : Int) ≤ iI s 2 ∧ iI s 2 ≤ 200 := I.1 2
    refine z_aload_n X (x := A 1) (show cdA 131 13 = some (.aload_n 0, 1, 0, 0, 0) from rfl) (List.Mem.head _) ?_
    refine z_getI X 1 (show cdA 131 14 = some (.getfield 42, 3, 10, 5, 0) from rfl) (by decide) rfl rfl ?_
    have b8 : (0 : Int) ≤ iI s 4 ∧ iI s 4 ≤ 200 := I.1 4
    refine z_sub X (show cdA 131 17 = some (.isub, 1, 0, 0, 0) from rfl) ?_
    refine z_aload_n X (x := q1) (show cdA 131 18 = some (.aload_n 1, 1, 0, 0, 0) from rfl) (List.Mem.tail _ (List.Mem.head _)) ?_
    refine z_callK X (rm := rmN 302) (As := []) (st := [.int (Int32.ofInt ((iI s 2) - (iI s 4)))]) (show decode (kCc k) 19 = .ok (.invokevirtual 62, 3) by rw [X.2.1.1]; decide +kernel) cw_len hO1k (by rw [E.1, E.2.1, E.2.2.1]; exact j_len G SF hs1 I) ⟨by rw [E.2.2.2]; exact (show (rmN 302).frames + 1 ≤ (rmN 131).frames by decide), by rw [E.2.2.2]; exact (show 8 + (mNL (miB 302) + 11) + (rmN 302).locals ≤ (rmN 131).locals by decide), by rw [E.2.2.2]; exact (show 0 + (rmN 302).cells ≤ (rmN 131).cells by decide), by rw [E.2.2.2]; exact (show 0 + (rmN 302).slots ≤ (rmN 131).slots by decide)⟩ (Nat.le_of_ble_eq_true rfl) (fun vv s9 hq => ?_) (fun ee s9 hq => ?_)
    rotate_left
    · obtain ⟨rfl, e10, hv, hrs9, hps9⟩ := hq; cases hv
    obtain ⟨rfl, e10, hv, hrs9, hps9⟩ := hq
    cases hv
    show WS k 22 [(0, .ref (A 1)), (1, .ref q1)] [.int (Int32.ofInt e10), .int (Int32.ofInt ((iI s 2) - (iI s 4)))] (Wd A dT s) 0 0
    refine z_icmp_eq X (t := 27) (show cdA 131 22 = some (.if_icmp .eq 5, 3, 0, 0, 0) from rfl) (by decide) ⟨by first | exact oq_b5f6b5ca p0 | omega, by first | exact oq_57a55da2 b7.2 b8.1 | omega⟩ ⟨by omega, by omega⟩ (fun g11 => ?_) (fun g11 => ?_)
    ·
      refine z_const X (show cdA 131 27 = some (.iconst 0, 1, 0, 0, 0) from rfl) ?_
      refine z_store_n X (lv' := [(2, .int (Int32.ofInt 0)), (0, .ref (A 1)), (1, .ref q1)]) (show cdA 131 28 = some (.istore_n 2, 1, 0, 0, 0) from rfl) (by decide) (fun _ h => h) ?_
      refine WS_lv (lv := [(0, .ref (A 1)), (1, .ref q1), (2, .int (Int32.ofInt 0))]) (List.forall_mem_cons.mpr ⟨(List.Mem.tail _ (List.Mem.head _)), (List.forall_mem_cons.mpr ⟨(List.Mem.tail _ (List.Mem.tail _ (List.Mem.head _))), (List.forall_mem_cons.mpr ⟨(List.Mem.head _), (fun q h => absurd h List.not_mem_nil)⟩)⟩)⟩) ?_
      refine L29 (((n1 : Int) - 0 : Int).toNat + 1) s 0 I F jBYW jTKS (fun i hi => by omega) (by omega) (Nat.lt_succ_self _) ?_
      intro s12 x13 Is12 Fs12 JBYW_s12 JTKS_s12 Qs12 hs12
      have b14 : (0 : Int) ≤ iI s12 2 ∧ iI s12 2 ≤ 200 := Is12.1 2
      have b15 : (0 : Int) ≤ iI s12 4 ∧ iI s12 4 ≤ 200 := Is12.1 4
      have b16 : ((-3) : Int) ≤ iI s12 5 ∧ iI s12 5 ≤ 255 := Is12.1 5
      have b17 : (0 : Int) ≤ iI s12 1 ∧ iI s12 1 ≤ 200 := Is12.1 1
      refine z_const X (show cdA 131 64 = some (.iconst 1, 1, 0, 0, 0) from rfl) ?_
      exact w_iret X.1 q hRt (nar_ret (by first | exact Or.inr (by decide) | omega)) (ax_d X (show cdA 131 65 = some (.ireturn, 1, 0, 0, 0) from rfl)) (Nat.zero_le _) (Nat.zero_le _) ⟨_, rfl, Is12, Fs12, JBYW_s12, JTKS_s12, 1, rfl, (by decide), Or.inl ⟨rfl, sy_yes jTKS hl1 (by omega) (by omega) (c := x13) (by omega) Qs12⟩⟩
    ·
      refine z_const X (show cdA 131 25 = some (.iconst 0, 1, 0, 0, 0) from rfl) ?_
      exact w_iret X.1 q hRt (nar_ret (by first | exact Or.inl (by decide) | omega)) (ax_d X (show cdA 131 26 = some (.ireturn, 1, 0, 0, 0) from rfl)) (Nat.zero_le _) (Nat.zero_le _) ⟨_, rfl, I, F, jBYW, jTKS, 0, rfl, (by decide), Or.inr ⟨rfl, sy_no jTKS hl1 (by omega)⟩⟩
set_option maxRecDepth 4000 in
theorem c7_put3 (G : GX l s0 D tys a0 dT) (I : Bd s) {x : Int} (p0 : rng x) (p1 : iI s 16 ≤ 199) : CT l s0 D A dT 82 (rmN 82) [.ref (A 19), .int (Int32.ofInt x)] s (fun o t => Bd t ∧ Fm [16] [18] s t ∧ o = .inl none ∧ (iI t 16 = iI s 16 + 1 ∧ DL t = DL s ++ [x])) := by
  refine ct_ofX G (by decide) (Nat.le_of_ble_eq_true rfl) (fun k X E ET hRt hXt q => ?_)
  show WS k 0 [(0, .ref (A 19)), (1, .int (Int32.ofInt x))] [] _ 0 0
  have F : Fm [16] [18] s s := fm_rf _ _ s
  have aw0_18 : SAM 18 s s := sam_rf
  have b1 : (0 : Int) ≤ iI s 16 ∧ iI s 16 ≤ 200 := I.1 16
  refine z_aload_n X (x := A 19) (show cdA 82 0 = some (.aload_n 0, 1, 0, 0, 0) from rfl) (List.Mem.head _) ?_
  refine z_getI X 19 (show cdA 82 1 = some (.getfield 35, 3, 7, 9, 0) from rfl) (by decide) rfl rfl ?_
  have b2 : (0 : Int) ≤ iI s 16 ∧ iI s 16 ≤ 200 := I.1 16
  refine z_sipush X (show cdA 82 4 = some (.sipush 200, 3, 0, 0, 200) from rfl) ?_
  refine z_icmp_ge X (t := 30) (show cdA 82 7 = some (.if_icmp .ge 23, 3, 3, 0, 0) from rfl) (by decide) (rng_to _) (by decide) (fun g3 => ?_) (fun g3 => ?_)
  ·
    exact w_vret X.1 q hRt (ax_d X (show cdA 82 30 = some (.return_, 1, 0, 0, 0) from rfl)) (Nat.zero_le _) (Nat.zero_le _) ⟨_, rfl, I, F, rfl, ⟨by first | exact oq_d8a0e68d g3 p1 | omega, by exfalso; omega⟩⟩
  ·
    refine z_aload_n X (x := A 19) (show cdA 82 10 = some (.aload_n 0, 1, 0, 0, 0) from rfl) (List.Mem.head _) ?_
    refine s_getR X 19 (show cdA 82 11 = some (.getfield 22, 3, 7, 7, 0) from rfl) (by decide) rfl rfl ?_
    refine z_aload_n X (x := A 19) (show cdA 82 14 = some (.aload_n 0, 1, 0, 0, 0) from rfl) (List.Mem.head _) ?_
    refine z_getI X 19 (show cdA 82 15 = some (.getfield 35, 3, 7, 9, 0) from rfl) (by decide) rfl rfl ?_
    have b4 : (0 : Int) ≤ iI s 16 ∧ iI s 16 ≤ 200 := I.1 16
    refine z_load_n X (x := x) (show cdA 82 18 = some (.iload_n 1, 1, 0, 0, 0) from rfl) (List.Mem.tail _ (List.Mem.head _)) ?_
    refine z_ast X 22 (show cdA 82 19 = some (.iastore, 1, 0, 0, 0) from rfl) (by decide) rfl (by first | exact b4.1 | omega) (show (iI s 16) < 200 by first | exact g3 | omega) (by decide) ?_
    obtain ⟨s5, hs5⟩ : ∃ x0, x0 = uC s 18 ((iI s 16)).toNat (Int32.ofInt x) := ⟨_, rfl⟩
    rw [← hs5]
    have Is5 : Bd s5 := by rw [hs5]; exact bd_C I (show ((-2147483648) : Int) ≤ x ∧ x ≤ 2147483647 by first | exact ⟨p0.1, p0.2⟩ | omega) ⟨by first | exact p0.1 | omega, by first | exact p0.2 | omega⟩
    have Fs5 := fm_C (i := ((iI s 16)).toNat) (x := Int32.ofInt x) F (show 18 ∈ _ by decide)
    rw [← hs5] at Fs5
    have ws5_16 : iI s5 16 = iI s 16 := by rw [hs5]; rfl
    have aws5_18 : UPD 18 ((iI s 16)) x s s5 := by rw [hs5]; exact upd_put aw0_18 ⟨by first | exact p0.1 | omega, by first | exact p0.2 | omega⟩
    refine z_aload_n X (x := A 19) (show cdA 82 20 = some (.aload_n 0, 1, 0, 0, 0) from rfl) (List.Mem.head _) ?_
    refine w_dup X.1 (ax_d X (show cdA 82 21 = some (.dup, 1, 0, 0, 0) from rfl)) rfl ?_
    refine z_getI X 19 (show cdA 82 22 = some (.getfield 35, 3, 7, 9, 0) from rfl) (by decide) rfl rfl ?_
    have b6 : (0 : Int) ≤ iI s5 16 ∧ iI s5 16 ≤ 200 := Is5.1 16
    refine z_const X (show cdA 82 25 = some (.iconst 1, 1, 0, 0, 0) from rfl) ?_
    refine z_add X (show cdA 82 26 = some (.iadd, 1, 0, 0, 0) from rfl) ?_
    refine s_putI X 19 (show cdA 82 27 = some (.putfield 35, 3, 7, 9, 0) from rfl) (by decide) rfl rfl (by decide) rfl rfl rfl ?_
    obtain ⟨s7, hs7⟩ : ∃ x0, x0 = uI s5 16 (Int32.ofInt ((iI s5 16) + 1)) := ⟨_, rfl⟩
    rw [← hs7]
    have Is7 : Bd s7 := by rw [hs7]; exact bd_I Is5 (show (0 : Int) ≤ ((iI s5 16) + 1) ∧ ((iI s5 16) + 1) ≤ 200 by first | exact ⟨oq_54f49eb5 b6.1, oq_c35a0598 ws5_16 g3⟩ | omega) ⟨by first | exact oq_74de1e16 b6.1 | omega, by first | exact oq_bb8d498d b6.2 | omega⟩
    have Fs7 := fm_I (x := Int32.ofInt ((iI s5 16) + 1)) Fs5 (show 16 ∈ _ by decide)
    rw [← hs7] at Fs7
    have vs7 : iI s7 16 = ((iI s5 16) + 1) := by rw [hs7]; exact iI_u ⟨by first | exact oq_74de1e16 b6.1 | omega, by first | exact oq_bb8d498d b6.2 | omega⟩
    have aws7_18 : UPD 18 ((iI s 16)) x s s7 := by rw [hs7]; exact aws5_18
    exact w_vret X.1 q hRt (ax_d X (show cdA 82 30 = some (.return_, 1, 0, 0, 0) from rfl)) (Nat.zero_le _) (Nat.zero_le _) ⟨_, rfl, Is7, Fs7, rfl, ⟨by first | exact oq_665cd23d vs7 ws5_16 | omega, DL_put aws7_18 (by omega) (by omega)⟩⟩
set_option maxRecDepth 4000 in
theorem c7_enter3 (G : GX l s0 D tys a0 dT) {B : Nat → Int} {N : Int} (I : Bd s) (jBYW : BYW B N s) (jTKS : TKS B N s) (p0 : iI s 2 ≤ iI s 1) (p1 : iI s 4 ≤ iI s 2) : CT l s0 D A dT 80 (rmN 80) [.ref (A 19)] s (fun o t => Bd t ∧ Fm [2, 4, 6, 5, 7, 8, 19] [] s t ∧ BYW B N t ∧ TKS B N t ∧ ∃ e, o = .inl (some (.int (Int32.ofInt e))) ∧ rng e ∧ (((e = 0 ∧ iI s 19 = 6 ∧ iI t 7 = 3) ∨ (e = 1 ∧ iI s 19 ≤ 5 ∧ iI t 19 = iI s 19 + 1 ∧ iI t 4 = sk B N (iI s 2) ∧ iI s 2 ≤ iI t 4)) ∧ iI t 2 ≤ iI t 1 ∧ iI t 4 ≤ iI t 2)) := by
  refine ct_ofX G (by decide) (Nat.le_of_ble_eq_true rfl) (fun k X E ET hRt hXt q => ?_)
  show WS k 0 [(0, .ref (A 19))] [] _ 0 0
  have F : Fm [2, 4, 6, 5, 7, 8, 19] [] s s := fm_rf _ _ s
  have hN := jBYW.2.1
  have hW := jBYW.2.2
  have b1 : (0 : Int) ≤ iI s 2 ∧ iI s 2 ≤ 200 := I.1 2
  have b2 : (0 : Int) ≤ iI s 1 ∧ iI s 1 ≤ 200 := I.1 1
  have b3 : (0 : Int) ≤ iI s 4 ∧ iI s 4 ≤ 200 := I.1 4
  have b4 : ((-3) : Int) ≤ iI s 5 ∧ iI s 5 ≤ 255 := I.1 5
  have b5 : (0 : Int) ≤ iI s 6 ∧ iI s 6 ≤ 100000 := I.1 6
  have b6 : (0 : Int) ≤ iI s 19 ∧ iI s 19 ≤ 6 := I.1 19
  have b7 : (0 : Int) ≤ iI s 7 ∧ iI s 7 ≤ 9 := I.1 7
  refine z_aload_n X (x := A 19) (show cdA 80 0 = some (.aload_n 0, 1, 0, 0, 0) from rfl) (List.Mem.head _) ?_
  refine z_getI X 19 (show cdA 80 1 = some (.getfield 44, 3, 7, 12, 0) from rfl) (by decide) rfl rfl ?_
  have b8 : (0 : Int) ≤ iI s 19 ∧ iI s 19 ≤ 6 := I.1 19
  refine z_bipush X (show cdA 80 4 = some (.bipush 6, 2, 0, 0, 6) from rfl) ?_
  refine z_icmp_lt X (t := 18) (show cdA 80 6 = some (.if_icmp .lt 12, 3, 2, 0, 0) from rfl) (by decide) (rng_to _) (by decide) (fun g9 => ?_) (fun g9 => ?_)
  ·
    refine z_aload_n X (x := A 19) (show cdA 80 18 = some (.aload_n 0, 1, 0, 0, 0) from rfl) (List.Mem.head _) ?_
    refine w_dup X.1 (ax_d X (show cdA 80 19 = some (.dup, 1, 0, 0, 0) from rfl)) rfl ?_
    refine z_getI X 19 (show cdA 80 20 = some (.getfield 44, 3, 7, 12, 0) from rfl) (by decide) rfl rfl ?_
    have b10 : (0 : Int) ≤ iI s 19 ∧ iI s 19 ≤ 6 := I.1 19
    refine z_const X (show cdA 80 23 = some (.iconst 1, 1, 0, 0, 0) from rfl) ?_
    refine z_add X (show cdA 80 24 = some (.iadd, 1, 0, 0, 0) from rfl) ?_
    refine s_putI X 19 (show cdA 80 25 = some (.putfield 44, 3, 7, 12, 0) from rfl) (by decide) rfl rfl (by decide) rfl rfl rfl ?_
    obtain ⟨s11, hs11⟩ : ∃ x0, x0 = uI s 19 (Int32.ofInt ((iI s 19) + 1)) := ⟨_, rfl⟩
    rw [← hs11]
    have Is11 : Bd s11 := by rw [hs11]; exact bd_I I (show (0 : Int) ≤ ((iI s 19) + 1) ∧ ((iI s 19) + 1) ≤ 6 by first | exact ⟨oq_54f49eb5 b10.1, oq_5bf54478 g9⟩ | omega) ⟨by first | exact oq_74de1e16 b10.1 | omega, by first | exact oq_5fe14c36 b10.2 | omega⟩
    have Fs11 := fm_I (x := Int32.ofInt ((iI s 19) + 1)) F (show 19 ∈ _ by decide)
    rw [← hs11] at Fs11
    have vs11 : iI s11 19 = ((iI s 19) + 1) := by rw [hs11]; exact iI_u ⟨by first | exact oq_74de1e16 b10.1 | omega, by first | exact oq_5fe14c36 b10.2 | omega⟩
    have ws11_2 : iI s11 2 = iI s 2 := by rw [hs11]; rfl
    have ws11_1 : iI s11 1 = iI s 1 := by rw [hs11]; rfl
    have ws11_4 : iI s11 4 = iI s 4 := by rw [hs11]; rfl
    have ws11_5 : iI s11 5 = iI s 5 := by rw [hs11]; rfl
    have ws11_6 : iI s11 6 = iI s 6 := by rw [hs11]; rfl
    have ws11_7 : iI s11 7 = iI s 7 := by rw [hs11]; rfl
    have fs11 : Fm [19] [] s s11 := by rw [hs11]; exact fm_I (fm_rf _ _ _) (show 19 ∈ _ by decide)
    have JBYW_s11 : BYW B N s11 := BYW_fm fs11 (by decide) jBYW
    have JTKS_s11 : TKS B N s11 := TKS_fm fs11 (by decide) jTKS
    refine z_aload_n X (x := A 19) (show cdA 80 28 = some (.aload_n 0, 1, 0, 0, 0) from rfl) (List.Mem.head _) ?_
    refine s_getR X 19 (show cdA 80 29 = some (.getfield 31, 3, 7, 0, 0) from rfl) (by decide) rfl rfl ?_
    refine z_callV X 1 (rm := rmN 129) (As := []) (st := []) (show cdA 80 32 = some (.invokevirtual 85, 3, 129, 0, 0) from rfl) rfl (by decide) rfl (by rw [E.1, E.2.1, E.2.2.1]; exact c10_step3 G Is11 JBYW_s11 (by first | exact oq_e7b9ecab ws11_1 ws11_2 p0 | omega)) ⟨by rw [E.2.2.2]; exact (show (rmN 129).frames + 1 ≤ (rmN 80).frames by decide), by rw [E.2.2.2]; exact (show 8 + (mNL (miB 129) + 11) + (rmN 129).locals ≤ (rmN 80).locals by decide), by rw [E.2.2.2]; exact (show 0 + (rmN 129).cells ≤ (rmN 80).cells by decide), by rw [E.2.2.2]; exact (show 0 + (rmN 129).slots ≤ (rmN 80).slots by decide)⟩ (Nat.le_of_ble_eq_true rfl) (fun vv s12 hq => ?_) (fun ee s12 hq => ?_)
    rotate_left
    · obtain ⟨Is12, Fs12, JBYW_s12, JTKS_s12, hv, hps12⟩ := hq; cases hv
    obtain ⟨Is12, Fs12, JBYW_s12, JTKS_s12, hv, hps12⟩ := hq
    cases hv
    have Gs12 := fm_ts Fs11 Fs12 (by decide) (by decide)
    have JBYW_s12 : BYW B N s12 := BYW_fm Fs12 (by decide) JBYW_s11
    have b14 : (0 : Int) ≤ iI s12 2 ∧ iI s12 2 ≤ 200 := Is12.1 2
    have ws12_1 : iI s12 1 = iI s11 1 := fm_i Fs12 (by decide)
    have b15 : (0 : Int) ≤ iI s12 4 ∧ iI s12 4 ≤ 200 := Is12.1 4
    have b16 : ((-3) : Int) ≤ iI s12 5 ∧ iI s12 5 ≤ 255 := Is12.1 5
    have b17 : (0 : Int) ≤ iI s12 6 ∧ iI s12 6 ≤ 100000 := Is12.1 6
    have ws12_19 : iI s12 19 = iI s11 19 := fm_i Fs12 (by decide)
    have ws12_7 : iI s12 7 = iI s11 7 := fm_i Fs12 (by decide)
    show WS k 35 [(0, .ref (A 19))] [] (Wd A dT s12) 0 0
    refine z_const X (show cdA 80 35 = some (.iconst 1, 1, 0, 0, 0) from rfl) ?_
    exact w_iret X.1 q hRt (nar_ret (by first | exact Or.inr (by decide) | omega)) (ax_d X (show cdA 80 36 = some (.ireturn, 1, 0, 0, 0) from rfl)) (Nat.zero_le _) (Nat.zero_le _) ⟨_, rfl, Is12, Gs12, JBYW_s12, JTKS_s12, 1, rfl, (by decide), ⟨by first | exact Or.inl ⟨by omega, by omega, by omega⟩ | exact Or.inr ⟨by omega, by omega, by omega, by rw [hps12.2.2.1, show iI s11 2 = iI s 2 by omega], by omega⟩, by first | exact hps12.1 | omega, by first | exact hps12.2.1 | omega⟩⟩
  ·
    refine z_aload_n X (x := A 19) (show cdA 80 9 = some (.aload_n 0, 1, 0, 0, 0) from rfl) (List.Mem.head _) ?_
    refine s_getR X 19 (show cdA 80 10 = some (.getfield 31, 3, 7, 0, 0) from rfl) (by decide) rfl rfl ?_
    refine z_const X (show cdA 80 13 = some (.iconst 3, 1, 0, 0, 0) from rfl) ?_
    refine z_callV X 1 (rm := rmN 132) (As := [.int (Int32.ofInt 3)]) (st := []) (show cdA 80 14 = some (.invokevirtual 82, 3, 132, 0, 0) from rfl) rfl (by decide) rfl (by rw [E.1, E.2.1, E.2.2.1]; exact c10_refuse3 G I (by first | exact ⟨by decide, by decide⟩ | omega)) ⟨by rw [E.2.2.2]; exact (show (rmN 132).frames + 1 ≤ (rmN 80).frames by decide), by rw [E.2.2.2]; exact (show 8 + (mNL (miB 132) + 11) + (rmN 132).locals ≤ (rmN 80).locals by decide), by rw [E.2.2.2]; exact (show 0 + (rmN 132).cells ≤ (rmN 80).cells by decide), by rw [E.2.2.2]; exact (show 0 + (rmN 132).slots ≤ (rmN 80).slots by decide)⟩ (Nat.le_of_ble_eq_true rfl) (fun vv s18 hq => ?_) (fun ee s18 hq => ?_)
    rotate_left
    · obtain ⟨Is18, Fs18, e19, hv, hrs18, hps18⟩ := hq; cases hv
    obtain ⟨Is18, Fs18, e19, hv, hrs18, hps18⟩ := hq
    cases hv
    have Gs18 := fm_ts F Fs18 (by decide) (by decide)
    have JBYW_s18 : BYW B N s18 := BYW_fm Fs18 (by decide) jBYW
    have JTKS_s18 : TKS B N s18 := TKS_fm Fs18 (by decide) jTKS
    have ws18_2 : iI s18 2 = iI s 2 := fm_i Fs18 (by decide)
    have ws18_1 : iI s18 1 = iI s 1 := fm_i Fs18 (by decide)
    have ws18_4 : iI s18 4 = iI s 4 := fm_i Fs18 (by decide)
    have ws18_5 : iI s18 5 = iI s 5 := fm_i Fs18 (by decide)
    have ws18_6 : iI s18 6 = iI s 6 := fm_i Fs18 (by decide)
    have ws18_19 : iI s18 19 = iI s 19 := fm_i Fs18 (by decide)
    have b20 : (0 : Int) ≤ iI s18 7 ∧ iI s18 7 ≤ 9 := Is18.1 7
    show WS k 17 [(0, .ref (A 19))] [.int (Int32.ofInt e19)] (Wd A dT s18) 0 0
    exact w_iret X.1 q hRt (nar_ret (by first | exact Or.inl (hps18.1) | omega)) (ax_d X (show cdA 80 17 = some (.ireturn, 1, 0, 0, 0) from rfl)) (Nat.zero_le _) (Nat.zero_le _) ⟨_, rfl, Is18, Gs18, JBYW_s18, JTKS_s18, e19, rfl, hrs18, ⟨by first | exact Or.inl ⟨by omega, by omega, by omega⟩ | exact Or.inr ⟨by omega, by omega, by omega, by rw [hps18.2.2.1, show iI s 2 = iI s 2 by omega], by omega⟩, by first | exact oq_e7b9ecab ws18_1 ws18_2 p0 | omega, by first | exact oq_e7b9ecab ws18_2 ws18_4 p1 | omega⟩⟩
set_option maxRecDepth 4000 in
theorem c7_pass3 (G : GX l s0 D tys a0 dT) {B : Nat → Int} {N : Int} (I : Bd s) (jBYW : BYW B N s) (jTKS : TKS B N s) {x : Int} (p0 : 0 ≤ x ∧ x ≤ 255) (p1 : x < 48 ∨ 57 < x) (p2 : x < 97 ∨ 122 < x) (p3 : iI s 2 ≤ iI s 1) (p4 : iI s 4 ≤ iI s 2) : CT l s0 D A dT 81 (rmN 81) [.ref (A 19), .int (Int32.ofInt x)] s (fun o t => Bd t ∧ Fm [2, 4, 6, 5, 7, 8] [] s t ∧ BYW B N t ∧ TKS B N t ∧ ∃ e, o = .inl (some (.int (Int32.ofInt e))) ∧ rng e ∧ ((e = 0 ∨ (e = 1 ∧ iI s 4 < iI t 4)) ∧ iI t 2 ≤ iI t 1 ∧ iI t 4 ≤ iI t 2 ∧ PSS B N x s t e)) := by
  refine ct_ofX G (by decide) (Nat.le_of_ble_eq_true rfl) (fun k X E ET hRt hXt q => ?_)
  show WS k 0 [(0, .ref (A 19)), (1, .int (Int32.ofInt x))] [] _ 0 0
  have F : Fm [2, 4, 6, 5, 7, 8] [] s s := fm_rf _ _ s
  have hN := jBYW.2.1
  have hW := jBYW.2.2
  have hch := tkw_ch (x := x) jTKS p0.1 p1 p2
  have b1 : (0 : Int) ≤ iI s 2 ∧ iI s 2 ≤ 200 := I.1 2
  have b2 : (0 : Int) ≤ iI s 1 ∧ iI s 1 ≤ 200 := I.1 1
  have b3 : (0 : Int) ≤ iI s 4 ∧ iI s 4 ≤ 200 := I.1 4
  have b4 : ((-3) : Int) ≤ iI s 5 ∧ iI s 5 ≤ 255 := I.1 5
  have b5 : (0 : Int) ≤ iI s 6 ∧ iI s 6 ≤ 100000 := I.1 6
  have b6 : (0 : Int) ≤ iI s 7 ∧ iI s 7 ≤ 9 := I.1 7
  refine z_aload_n X (x := A 19) (show cdA 81 0 = some (.aload_n 0, 1, 0, 0, 0) from rfl) (List.Mem.head _) ?_
  refine s_getR X 19 (show cdA 81 1 = some (.getfield 31, 3, 7, 0, 0) from rfl) (by decide) rfl rfl ?_
  refine z_getI X 1 (show cdA 81 4 = some (.getfield 47, 3, 10, 6, 0) from rfl) (by decide) rfl rfl ?_
  have b7 : ((-3) : Int) ≤ iI s 5 ∧ iI s 5 ≤ 255 := I.1 5
  refine z_load_n X (x := x) (show cdA 81 7 = some (.iload_n 1, 1, 0, 0, 0) from rfl) (List.Mem.tail _ (List.Mem.head _)) ?_
  refine z_icmp_eq X (t := 20) (show cdA 81 8 = some (.if_icmp .eq 12, 3, 0, 0, 0) from rfl) (by decide) (rng_to _) ⟨by first | exact oq_fa4e5087 p0.1 | omega, by first | exact oq_4567a937 p0.2 | omega⟩ (fun g8 => ?_) (fun g8 => ?_)
  ·
    refine z_aload_n X (x := A 19) (show cdA 81 20 = some (.aload_n 0, 1, 0, 0, 0) from rfl) (List.Mem.head _) ?_
    refine s_getR X 19 (show cdA 81 21 = some (.getfield 31, 3, 7, 0, 0) from rfl) (by decide) rfl rfl ?_
    refine z_callV X 1 (rm := rmN 129) (As := []) (st := []) (show cdA 81 24 = some (.invokevirtual 85, 3, 129, 0, 0) from rfl) rfl (by decide) rfl (by rw [E.1, E.2.1, E.2.2.1]; exact c10_step3 G I jBYW (by first | exact p3 | omega)) ⟨by rw [E.2.2.2]; exact (show (rmN 129).frames + 1 ≤ (rmN 81).frames by decide), by rw [E.2.2.2]; exact (show 8 + (mNL (miB 129) + 11) + (rmN 129).locals ≤ (rmN 81).locals by decide), by rw [E.2.2.2]; exact (show 0 + (rmN 129).cells ≤ (rmN 81).cells by decide), by rw [E.2.2.2]; exact (show 0 + (rmN 129).slots ≤ (rmN 81).slots by decide)⟩ (Nat.le_of_ble_eq_true rfl) (fun vv s9 hq => ?_) (fun ee s9 hq => ?_)
    rotate_left
    · obtain ⟨Is9, Fs9, JBYW_s9, JTKS_s9, hv, hps9⟩ := hq; cases hv
    obtain ⟨Is9, Fs9, JBYW_s9, JTKS_s9, hv, hps9⟩ := hq
    cases hv
    have Gs9 := fm_ts F Fs9 (by decide) (by decide)
    have JBYW_s9 : BYW B N s9 := BYW_fm Fs9 (by decide) jBYW
    have b11 : (0 : Int) ≤ iI s9 2 ∧ iI s9 2 ≤ 200 := Is9.1 2
    have ws9_1 : iI s9 1 = iI s 1 := fm_i Fs9 (by decide)
    have b12 : (0 : Int) ≤ iI s9 4 ∧ iI s9 4 ≤ 200 := Is9.1 4
    have b13 : ((-3) : Int) ≤ iI s9 5 ∧ iI s9 5 ≤ 255 := Is9.1 5
    have b14 : (0 : Int) ≤ iI s9 6 ∧ iI s9 6 ≤ 100000 := Is9.1 6
    have ws9_7 : iI s9 7 = iI s 7 := fm_i Fs9 (by decide)
    show WS k 27 [(0, .ref (A 19)), (1, .int (Int32.ofInt x))] [] (Wd A dT s9) 0 0
    refine z_const X (show cdA 81 27 = some (.iconst 1, 1, 0, 0, 0) from rfl) ?_
    exact w_iret X.1 q hRt (nar_ret (by first | exact Or.inr (by decide) | omega)) (ax_d X (show cdA 81 28 = some (.ireturn, 1, 0, 0, 0) from rfl)) (Nat.zero_le _) (Nat.zero_le _) ⟨_, rfl, Is9, Gs9, JBYW_s9, JTKS_s9, 1, rfl, (by decide), ⟨by have := (hch.1 (by omega)).2; omega, by first | exact hps9.1 | omega, by first | exact hps9.2.1 | omega, Or.inl ⟨rfl, (hch.1 (by omega)).1, by rw [hps9.2.2.1, show iI s 2 = iI s 4 + 1 by have := (hch.1 (by omega)).2; omega]⟩⟩⟩
  ·
    refine z_aload_n X (x := A 19) (show cdA 81 11 = some (.aload_n 0, 1, 0, 0, 0) from rfl) (List.Mem.head _) ?_
    refine s_getR X 19 (show cdA 81 12 = some (.getfield 31, 3, 7, 0, 0) from rfl) (by decide) rfl rfl ?_
    refine z_const X (show cdA 81 15 = some (.iconst 1, 1, 0, 0, 0) from rfl) ?_
    refine z_callV X 1 (rm := rmN 132) (As := [.int (Int32.ofInt 1)]) (st := []) (show cdA 81 16 = some (.invokevirtual 82, 3, 132, 0, 0) from rfl) rfl (by decide) rfl (by rw [E.1, E.2.1, E.2.2.1]; exact c10_refuse3 G I (by first | exact ⟨by decide, by decide⟩ | omega)) ⟨by rw [E.2.2.2]; exact (show (rmN 132).frames + 1 ≤ (rmN 81).frames by decide), by rw [E.2.2.2]; exact (show 8 + (mNL (miB 132) + 11) + (rmN 132).locals ≤ (rmN 81).locals by decide), by rw [E.2.2.2]; exact (show 0 + (rmN 132).cells ≤ (rmN 81).cells by decide), by rw [E.2.2.2]; exact (show 0 + (rmN 132).slots ≤ (rmN 81).slots by decide)⟩ (Nat.le_of_ble_eq_true rfl) (fun vv s15 hq => ?_) (fun ee s15 hq => ?_)
    rotate_left
    · obtain ⟨Is15, Fs15, e16, hv, hrs15, hps15⟩ := hq; cases hv
    obtain ⟨Is15, Fs15, e16, hv, hrs15, hps15⟩ := hq
    cases hv
    have Gs15 := fm_ts F Fs15 (by decide) (by decide)
    have JBYW_s15 : BYW B N s15 := BYW_fm Fs15 (by decide) jBYW
    have JTKS_s15 : TKS B N s15 := TKS_fm Fs15 (by decide) jTKS
    have ws15_2 : iI s15 2 = iI s 2 := fm_i Fs15 (by decide)
    have ws15_1 : iI s15 1 = iI s 1 := fm_i Fs15 (by decide)
    have ws15_4 : iI s15 4 = iI s 4 := fm_i Fs15 (by decide)
    have ws15_5 : iI s15 5 = iI s 5 := fm_i Fs15 (by decide)
    have ws15_6 : iI s15 6 = iI s 6 := fm_i Fs15 (by decide)
    have b17 : (0 : Int) ≤ iI s15 7 ∧ iI s15 7 ≤ 9 := Is15.1 7
    show WS k 19 [(0, .ref (A 19)), (1, .int (Int32.ofInt x))] [.int (Int32.ofInt e16)] (Wd A dT s15) 0 0
    exact w_iret X.1 q hRt (nar_ret (by first | exact Or.inl (hps15.1) | omega)) (ax_d X (show cdA 81 19 = some (.ireturn, 1, 0, 0, 0) from rfl)) (Nat.zero_le _) (Nat.zero_le _) ⟨_, rfl, Is15, Gs15, JBYW_s15, JTKS_s15, e16, rfl, hrs15, ⟨by first | exact Or.inl (hps15.1) | omega, by first | exact oq_e7b9ecab ws15_1 ws15_2 p3 | omega, by first | exact oq_e7b9ecab ws15_2 ws15_4 p4 | omega, Or.inr ⟨by omega, hch.2 (by omega), by omega⟩⟩⟩
set_option maxRecDepth 4000 in
theorem c7_codeOfName3 (G : GX l s0 D tys a0 dT) {B : Nat → Int} {N : Int} (SF : SF0 s0) (GT : TXw0 s0) (I : Bd s) (jBYW : BYW B N s) (jTKS : TKS B N s) (p0 : iI s 2 ≤ iI s 1) (p1 : iI s 4 ≤ iI s 2) : CT l s0 D A dT 79 (rmN 79) [.ref (A 19)] s (fun o t => Bd t ∧ Fm [] [] s t ∧ BYW B N t ∧ TKS B N t ∧ ∃ e, o = .inl (some (.int (Int32.ofInt e))) ∧ rng e ∧ ((e = -20 ∧ nmC B N (iI s 4) = 0) ∨ (-7 ≤ e ∧ e ≤ -1 ∧ nmC B N (iI s 4) = e))) := by
  refine ct_ofX G (by decide) (Nat.le_of_ble_eq_true rfl) (fun k X E ET hRt hXt q => ?_)
  show WS k 0 [(0, .ref (A 19))] [] _ 0 0
  have F : Fm [] [] s s := fm_rf _ _ s
  have b1 : (0 : Int) ≤ iI s 2 ∧ iI s 2 ≤ 200 := I.1 2
  have b2 : (0 : Int) ≤ iI s 1 ∧ iI s 1 ≤ 200 := I.1 1
  have b3 : (0 : Int) ≤ iI s 4 ∧ iI s 4 ≤ 200 := I.1 4
  have b4 : ((-3) : Int) ≤ iI s 5 ∧ iI s 5 ≤ 255 := I.1 5
  have b5 : (0 : Int) ≤ iI s 6 ∧ iI s 6 ≤ 100000 := I.1 6
  refine z_aload_n X (x := A 19) (show cdA 79 0 = some (.aload_n 0, 1, 0, 0, 0) from rfl) (List.Mem.head _) ?_
  refine s_getR X 19 (show cdA 79 1 = some (.getfield 31, 3, 7, 0, 0) from rfl) (by decide) rfl rfl ?_
  obtain ⟨tx136, q136, hR136, hS136⟩ := GT (136, [119, 97, 121, 115]) (by decide)
  refine w_ldcK X (show vk_R (kOwn k) 136 tx136 q136 (kS0 k) by rw [E.2.1, X.2.1.2.1]; exact hR136) (show decode (kCc k) 4 = .ok (.ldc 136, 2) by rw [X.2.1.1]; decide +kernel) ?_
  refine z_callV X 1 (rm := rmN 131) (As := [.ref q136]) (st := []) (show cdA 79 6 = some (.invokevirtual 76, 3, 131, 0, 0) from rfl) rfl (by decide) rfl (by rw [E.1, E.2.1, E.2.2.1]; exact c10_says3 G SF hS136 (by decide) I jBYW jTKS (by first | exact p1 | omega)) ⟨by rw [E.2.2.2]; exact (show (rmN 131).frames + 1 ≤ (rmN 79).frames by decide), by rw [E.2.2.2]; exact (show 8 + (mNL (miB 131) + 11) + (rmN 131).locals ≤ (rmN 79).locals by decide), by rw [E.2.2.2]; exact (show 0 + (rmN 131).cells ≤ (rmN 79).cells by decide), by rw [E.2.2.2]; exact (show 0 + (rmN 131).slots ≤ (rmN 79).slots by decide)⟩ (Nat.le_of_ble_eq_true rfl) (fun vv s6 hq => ?_) (fun ee s6 hq => ?_)
  rotate_left
  · obtain ⟨Is6, Fs6, JBYW_s6, JTKS_s6, e7, hv, hrs6, hps6⟩ := hq; cases hv
  obtain ⟨Is6, Fs6, JBYW_s6, JTKS_s6, e7, hv, hrs6, hps6⟩ := hq
  cases hv
  have Gs6 := fm_ts F Fs6 (by decide) (by decide)
  have JBYW_s6 : BYW B N s6 := BYW_fm Fs6 (by decide) jBYW
  have JTKS_s6 : TKS B N s6 := TKS_fm Fs6 (by decide) jTKS
  have ws6_2 : iI s6 2 = iI s 2 := fm_i Fs6 (by decide)
  have ws6_1 : iI s6 1 = iI s 1 := fm_i Fs6 (by decide)
  have ws6_4 : iI s6 4 = iI s 4 := fm_i Fs6 (by decide)
  have ws6_5 : iI s6 5 = iI s 5 := fm_i Fs6 (by decide)
  have ws6_6 : iI s6 6 = iI s 6 := fm_i Fs6 (by decide)
  have hws6 : (e7 = 1 ∧ whV B N (iI s 4) = 454132) ∨ (e7 = 0 ∧ whV B N (iI s 4) ≠ 454132) := by have h := hps6; rw [show iI s 4 = iI s 4 by omega, show whL [119, 97, 121, 115] 0 = 454132 by decide] at h; exact h
  show WS k 9 [(0, .ref (A 19))] [.int (Int32.ofInt e7)] (Wd A dT s6) 0 0
  refine z_if_eq X (t := 16) (show cdA 79 9 = some (.ifCond .eq 7, 3, 0, 0, 0) from rfl) (by decide) hrs6 (fun g8 => ?_) (fun g8 => ?_)
  ·
    refine z_aload_n X (x := A 19) (show cdA 79 16 = some (.aload_n 0, 1, 0, 0, 0) from rfl) (List.Mem.head _) ?_
    refine s_getR X 19 (show cdA 79 17 = some (.getfield 31, 3, 7, 0, 0) from rfl) (by decide) rfl rfl ?_
    obtain ⟨tx138, q138, hR138, hS138⟩ := GT (138, [99, 114, 111, 115, 115]) (by decide)
    refine w_ldcK X (show vk_R (kOwn k) 138 tx138 q138 (kS0 k) by rw [E.2.1, X.2.1.2.1]; exact hR138) (show decode (kCc k) 20 = .ok (.ldc 138, 2) by rw [X.2.1.1]; decide +kernel) ?_
    refine z_callV X 1 (rm := rmN 131) (As := [.ref q138]) (st := []) (show cdA 79 22 = some (.invokevirtual 76, 3, 131, 0, 0) from rfl) rfl (by decide) rfl (by rw [E.1, E.2.1, E.2.2.1]; exact c10_says3 G SF hS138 (by decide) Is6 JBYW_s6 JTKS_s6 (by first | exact oq_e7b9ecab ws6_2 ws6_4 p1 | omega)) ⟨by rw [E.2.2.2]; exact (show (rmN 131).frames + 1 ≤ (rmN 79).frames by decide), by rw [E.2.2.2]; exact (show 8 + (mNL (miB 131) + 11) + (rmN 131).locals ≤ (rmN 79).locals by decide), by rw [E.2.2.2]; exact (show 0 + (rmN 131).cells ≤ (rmN 79).cells by decide), by rw [E.2.2.2]; exact (show 0 + (rmN 131).slots ≤ (rmN 79).slots by decide)⟩ (Nat.le_of_ble_eq_true rfl) (fun vv s9 hq => ?_) (fun ee s9 hq => ?_)
    rotate_left
    · obtain ⟨Is9, Fs9, JBYW_s9, JTKS_s9, e10, hv, hrs9, hps9⟩ := hq; cases hv
    obtain ⟨Is9, Fs9, JBYW_s9, JTKS_s9, e10, hv, hrs9, hps9⟩ := hq
    cases hv
    have Gs9 := fm_ts Gs6 Fs9 (by decide) (by decide)
    have JBYW_s9 : BYW B N s9 := BYW_fm Fs9 (by decide) JBYW_s6
    have JTKS_s9 : TKS B N s9 := TKS_fm Fs9 (by decide) JTKS_s6
    have ws9_2 : iI s9 2 = iI s6 2 := fm_i Fs9 (by decide)
    have ws9_1 : iI s9 1 = iI s6 1 := fm_i Fs9 (by decide)
    have ws9_4 : iI s9 4 = iI s6 4 := fm_i Fs9 (by decide)
    have ws9_5 : iI s9 5 = iI s6 5 := fm_i Fs9 (by decide)
    have ws9_6 : iI s9 6 = iI s6 6 := fm_i Fs9 (by decide)
    have hws9 : (e10 = 1 ∧ whV B N (iI s 4) = 1960084) ∨ (e10 = 0 ∧ whV B N (iI s 4) ≠ 1960084) := by have h := hps9; rw [show iI s6 4 = iI s 4 by omega, show whL [99, 114, 111, 115, 115] 0 = 1960084 by decide] at h; exact h
    show WS k 25 [(0, .ref (A 19))] [.int (Int32.ofInt e10)] (Wd A dT s9) 0 0
    refine z_if_eq X (t := 33) (show cdA 79 25 = some (.ifCond .eq 8, 3, 0, 0, 0) from rfl) (by decide) hrs9 (fun g11 => ?_) (fun g11 => ?_)
    ·
      refine z_aload_n X (x := A 19) (show cdA 79 33 = some (.aload_n 0, 1, 0, 0, 0) from rfl) (List.Mem.head _) ?_
      refine s_getR X 19 (show cdA 79 34 = some (.getfield 31, 3, 7, 0, 0) from rfl) (by decide) rfl rfl ?_
      obtain ⟨tx140, q140, hR140, hS140⟩ := GT (140, [111, 118, 101, 114]) (by decide)
      refine w_ldcK X (show vk_R (kOwn k) 140 tx140 q140 (kS0 k) by rw [E.2.1, X.2.1.2.1]; exact hR140) (show decode (kCc k) 37 = .ok (.ldc 140, 2) by rw [X.2.1.1]; decide +kernel) ?_
      refine z_callV X 1 (rm := rmN 131) (As := [.ref q140]) (st := []) (show cdA 79 39 = some (.invokevirtual 76, 3, 131, 0, 0) from rfl) rfl (by decide) rfl (by rw [E.1, E.2.1, E.2.2.1]; exact c10_says3 G SF hS140 (by decide) Is9 JBYW_s9 JTKS_s9 (by first | exact oq_4407eb3c ws9_2 ws9_4 ws6_2 ws6_4 p1 | omega)) ⟨by rw [E.2.2.2]; exact (show (rmN 131).frames + 1 ≤ (rmN 79).frames by decide), by rw [E.2.2.2]; exact (show 8 + (mNL (miB 131) + 11) + (rmN 131).locals ≤ (rmN 79).locals by decide), by rw [E.2.2.2]; exact (show 0 + (rmN 131).cells ≤ (rmN 79).cells by decide), by rw [E.2.2.2]; exact (show 0 + (rmN 131).slots ≤ (rmN 79).slots by decide)⟩ (Nat.le_of_ble_eq_true rfl) (fun vv s12 hq => ?_) (fun ee s12 hq => ?_)
      rotate_left
      · obtain ⟨Is12, Fs12, JBYW_s12, JTKS_s12, e13, hv, hrs12, hps12⟩ := hq; cases hv
      obtain ⟨Is12, Fs12, JBYW_s12, JTKS_s12, e13, hv, hrs12, hps12⟩ := hq
      cases hv
      have Gs12 := fm_ts Gs9 Fs12 (by decide) (by decide)
      have JBYW_s12 : BYW B N s12 := BYW_fm Fs12 (by decide) JBYW_s9
      have JTKS_s12 : TKS B N s12 := TKS_fm Fs12 (by decide) JTKS_s9
      have ws12_2 : iI s12 2 = iI s9 2 := fm_i Fs12 (by decide)
      have ws12_1 : iI s12 1 = iI s9 1 := fm_i Fs12 (by decide)
      have ws12_4 : iI s12 4 = iI s9 4 := fm_i Fs12 (by decide)
      have ws12_5 : iI s12 5 = iI s9 5 := fm_i Fs12 (by decide)
      have ws12_6 : iI s12 6 = iI s9 6 := fm_i Fs12 (by decide)
      have hws12 : (e13 = 1 ∧ whV B N (iI s 4) = 311436) ∨ (e13 = 0 ∧ whV B N (iI s 4) ≠ 311436) := by have h := hps12; rw [show iI s9 4 = iI s 4 by omega, show whL [111, 118, 101, 114] 0 = 311436 by decide] at h; exact h
      show WS k 42 [(0, .ref (A 19))] [.int (Int32.ofInt e13)] (Wd A dT s12) 0 0
      refine z_if_eq X (t := 50) (show cdA 79 42 = some (.ifCond .eq 8, 3, 0, 0, 0) from rfl) (by decide) hrs12 (fun g14 => ?_) (fun g14 => ?_)
      ·
        refine z_aload_n X (x := A 19) (show cdA 79 50 = some (.aload_n 0, 1, 0, 0, 0) from rfl) (List.Mem.head _) ?_
        refine s_getR X 19 (show cdA 79 51 = some (.getfield 31, 3, 7, 0, 0) from rfl) (by decide) rfl rfl ?_
        obtain ⟨tx142, q142, hR142, hS142⟩ := GT (142, [99, 108, 105, 109, 98]) (by decide)
        refine w_ldcK X (show vk_R (kOwn k) 142 tx142 q142 (kS0 k) by rw [E.2.1, X.2.1.2.1]; exact hR142) (show decode (kCc k) 54 = .ok (.ldc 142, 2) by rw [X.2.1.1]; decide +kernel) ?_
        refine z_callV X 1 (rm := rmN 131) (As := [.ref q142]) (st := []) (show cdA 79 56 = some (.invokevirtual 76, 3, 131, 0, 0) from rfl) rfl (by decide) rfl (by rw [E.1, E.2.1, E.2.2.1]; exact c10_says3 G SF hS142 (by decide) Is12 JBYW_s12 JTKS_s12 (by first | exact oq_7f1a346e ws12_4 ws12_2 ws9_4 ws9_2 ws6_4 ws6_2 p1 | omega)) ⟨by rw [E.2.2.2]; exact (show (rmN 131).frames + 1 ≤ (rmN 79).frames by decide), by rw [E.2.2.2]; exact (show 8 + (mNL (miB 131) + 11) + (rmN 131).locals ≤ (rmN 79).locals by decide), by rw [E.2.2.2]; exact (show 0 + (rmN 131).cells ≤ (rmN 79).cells by decide), by rw [E.2.2.2]; exact (show 0 + (rmN 131).slots ≤ (rmN 79).slots by decide)⟩ (Nat.le_of_ble_eq_true rfl) (fun vv s15 hq => ?_) (fun ee s15 hq => ?_)
        rotate_left
        · obtain ⟨Is15, Fs15, JBYW_s15, JTKS_s15, e16, hv, hrs15, hps15⟩ := hq; cases hv
        obtain ⟨Is15, Fs15, JBYW_s15, JTKS_s15, e16, hv, hrs15, hps15⟩ := hq
        cases hv
        have Gs15 := fm_ts Gs12 Fs15 (by decide) (by decide)
        have JBYW_s15 : BYW B N s15 := BYW_fm Fs15 (by decide) JBYW_s12
        have JTKS_s15 : TKS B N s15 := TKS_fm Fs15 (by decide) JTKS_s12
        have ws15_2 : iI s15 2 = iI s12 2 := fm_i Fs15 (by decide)
        have ws15_1 : iI s15 1 = iI s12 1 := fm_i Fs15 (by decide)
        have ws15_4 : iI s15 4 = iI s12 4 := fm_i Fs15 (by decide)
        have ws15_5 : iI s15 5 = iI s12 5 := fm_i Fs15 (by decide)
        have ws15_6 : iI s15 6 = iI s12 6 := fm_i Fs15 (by decide)
        have hws15 : (e16 = 1 ∧ whV B N (iI s 4) = 1837433) ∨ (e16 = 0 ∧ whV B N (iI s 4) ≠ 1837433) := by have h := hps15; rw [show iI s12 4 = iI s 4 by omega, show whL [99, 108, 105, 109, 98] 0 = 1837433 by decide] at h; exact h
        show WS k 59 [(0, .ref (A 19))] [.int (Int32.ofInt e16)] (Wd A dT s15) 0 0
        refine z_if_eq X (t := 67) (show cdA 79 59 = some (.ifCond .eq 8, 3, 0, 0, 0) from rfl) (by decide) hrs15 (fun g17 => ?_) (fun g17 => ?_)
        ·
          refine z_aload_n X (x := A 19) (show cdA 79 67 = some (.aload_n 0, 1, 0, 0, 0) from rfl) (List.Mem.head _) ?_
          refine s_getR X 19 (show cdA 79 68 = some (.getfield 31, 3, 7, 0, 0) from rfl) (by decide) rfl rfl ?_
          obtain ⟨tx144, q144, hR144, hS144⟩ := GT (144, [99, 101, 108, 108, 115]) (by decide)
          refine w_ldcK X (show vk_R (kOwn k) 144 tx144 q144 (kS0 k) by rw [E.2.1, X.2.1.2.1]; exact hR144) (show decode (kCc k) 71 = .ok (.ldc 144, 2) by rw [X.2.1.1]; decide +kernel) ?_
          refine z_callV X 1 (rm := rmN 131) (As := [.ref q144]) (st := []) (show cdA 79 73 = some (.invokevirtual 76, 3, 131, 0, 0) from rfl) rfl (by decide) rfl (by rw [E.1, E.2.1, E.2.2.1]; exact c10_says3 G SF hS144 (by decide) Is15 JBYW_s15 JTKS_s15 (by first | exact oq_969cff60 ws15_4 ws15_2 ws12_4 ws12_2 ws9_4 ws9_2 ws6_4 ws6_2 p1 | omega)) ⟨by rw [E.2.2.2]; exact (show (rmN 131).frames + 1 ≤ (rmN 79).frames by decide), by rw [E.2.2.2]; exact (show 8 + (mNL (miB 131) + 11) + (rmN 131).locals ≤ (rmN 79).locals by decide), by rw [E.2.2.2]; exact (show 0 + (rmN 131).cells ≤ (rmN 79).cells by decide), by rw [E.2.2.2]; exact (show 0 + (rmN 131).slots ≤ (rmN 79).slots by decide)⟩ (Nat.le_of_ble_eq_true rfl) (fun vv s18 hq => ?_) (fun ee s18 hq => ?_)
          rotate_left
          · obtain ⟨Is18, Fs18, JBYW_s18, JTKS_s18, e19, hv, hrs18, hps18⟩ := hq; cases hv
          obtain ⟨Is18, Fs18, JBYW_s18, JTKS_s18, e19, hv, hrs18, hps18⟩ := hq
          cases hv
          have Gs18 := fm_ts Gs15 Fs18 (by decide) (by decide)
          have JBYW_s18 : BYW B N s18 := BYW_fm Fs18 (by decide) JBYW_s15
          have JTKS_s18 : TKS B N s18 := TKS_fm Fs18 (by decide) JTKS_s15
          have ws18_2 : iI s18 2 = iI s15 2 := fm_i Fs18 (by decide)
          have ws18_1 : iI s18 1 = iI s15 1 := fm_i Fs18 (by decide)
          have ws18_4 : iI s18 4 = iI s15 4 := fm_i Fs18 (by decide)
          have ws18_5 : iI s18 5 = iI s15 5 := fm_i Fs18 (by decide)
          have ws18_6 : iI s18 6 = iI s15 6 := fm_i Fs18 (by decide)
          have hws18 : (e19 = 1 ∧ whV B N (iI s 4) = 1701829) ∨ (e19 = 0 ∧ whV B N (iI s 4) ≠ 1701829) := by have h := hps18; rw [show iI s15 4 = iI s 4 by omega, show whL [99, 101, 108, 108, 115] 0 = 1701829 by decide] at h; exact h
          show WS k 76 [(0, .ref (A 19))] [.int (Int32.ofInt e19)] (Wd A dT s18) 0 0
          refine z_if_eq X (t := 84) (show cdA 79 76 = some (.ifCond .eq 8, 3, 0, 0, 0) from rfl) (by decide) hrs18 (fun g20 => ?_) (fun g20 => ?_)
          ·
            refine z_aload_n X (x := A 19) (show cdA 79 84 = some (.aload_n 0, 1, 0, 0, 0) from rfl) (List.Mem.head _) ?_
            refine s_getR X 19 (show cdA 79 85 = some (.getfield 31, 3, 7, 0, 0) from rfl) (by decide) rfl rfl ?_
            obtain ⟨tx146, q146, hR146, hS146⟩ := GT (146, [108, 111, 119]) (by decide)
            refine w_ldcK X (show vk_R (kOwn k) 146 tx146 q146 (kS0 k) by rw [E.2.1, X.2.1.2.1]; exact hR146) (show decode (kCc k) 88 = .ok (.ldc 146, 2) by rw [X.2.1.1]; decide +kernel) ?_
            refine z_callV X 1 (rm := rmN 131) (As := [.ref q146]) (st := []) (show cdA 79 90 = some (.invokevirtual 76, 3, 131, 0, 0) from rfl) rfl (by decide) rfl (by rw [E.1, E.2.1, E.2.2.1]; exact c10_says3 G SF hS146 (by decide) Is18 JBYW_s18 JTKS_s18 (by first | exact oq_31bdcab7 ws18_4 ws18_2 ws15_4 ws15_2 ws12_4 ws12_2 ws9_4 ws9_2 ws6_4 ws6_2 p1 | omega)) ⟨by rw [E.2.2.2]; exact (show (rmN 131).frames + 1 ≤ (rmN 79).frames by decide), by rw [E.2.2.2]; exact (show 8 + (mNL (miB 131) + 11) + (rmN 131).locals ≤ (rmN 79).locals by decide), by rw [E.2.2.2]; exact (show 0 + (rmN 131).cells ≤ (rmN 79).cells by decide), by rw [E.2.2.2]; exact (show 0 + (rmN 131).slots ≤ (rmN 79).slots by decide)⟩ (Nat.le_of_ble_eq_true rfl) (fun vv s21 hq => ?_) (fun ee s21 hq => ?_)
            rotate_left
            · obtain ⟨Is21, Fs21, JBYW_s21, JTKS_s21, e22, hv, hrs21, hps21⟩ := hq; cases hv
            obtain ⟨Is21, Fs21, JBYW_s21, JTKS_s21, e22, hv, hrs21, hps21⟩ := hq
            cases hv
            have Gs21 := fm_ts Gs18 Fs21 (by decide) (by decide)
            have JBYW_s21 : BYW B N s21 := BYW_fm Fs21 (by decide) JBYW_s18
            have JTKS_s21 : TKS B N s21 := TKS_fm Fs21 (by decide) JTKS_s18
            have ws21_2 : iI s21 2 = iI s18 2 := fm_i Fs21 (by decide)
            have ws21_1 : iI s21 1 = iI s18 1 := fm_i Fs21 (by decide)
            have ws21_4 : iI s21 4 = iI s18 4 := fm_i Fs21 (by decide)
            have ws21_5 : iI s21 5 = iI s18 5 := fm_i Fs21 (by decide)
            have ws21_6 : iI s21 6 = iI s18 6 := fm_i Fs21 (by decide)
            have hws21 : (e22 = 1 ∧ whV B N (iI s 4) = 9176) ∨ (e22 = 0 ∧ whV B N (iI s 4) ≠ 9176) := by have h := hps21; rw [show iI s18 4 = iI s 4 by omega, show whL [108, 111, 119] 0 = 9176 by decide] at h; exact h
            show WS k 93 [(0, .ref (A 19))] [.int (Int32.ofInt e22)] (Wd A dT s21) 0 0
            refine z_if_eq X (t := 101) (show cdA 79 93 = some (.ifCond .eq 8, 3, 0, 0, 0) from rfl) (by decide) hrs21 (fun g23 => ?_) (fun g23 => ?_)
            ·
              refine z_aload_n X (x := A 19) (show cdA 79 101 = some (.aload_n 0, 1, 0, 0, 0) from rfl) (List.Mem.head _) ?_
              refine s_getR X 19 (show cdA 79 102 = some (.getfield 31, 3, 7, 0, 0) from rfl) (by decide) rfl rfl ?_
              obtain ⟨tx148, q148, hR148, hS148⟩ := GT (148, [112, 105, 101, 99, 101, 115]) (by decide)
              refine w_ldcK X (show vk_R (kOwn k) 148 tx148 q148 (kS0 k) by rw [E.2.1, X.2.1.2.1]; exact hR148) (show decode (kCc k) 105 = .ok (.ldc 148, 2) by rw [X.2.1.1]; decide +kernel) ?_
              refine z_callV X 1 (rm := rmN 131) (As := [.ref q148]) (st := []) (show cdA 79 107 = some (.invokevirtual 76, 3, 131, 0, 0) from rfl) rfl (by decide) rfl (by rw [E.1, E.2.1, E.2.2.1]; exact c10_says3 G SF hS148 (by decide) Is21 JBYW_s21 JTKS_s21 (by first | exact oq_671a0eb2 ws21_4 ws21_2 ws18_4 ws18_2 ws15_4 ws15_2 ws12_4 ws12_2 ws9_4 ws9_2 ws6_4 ws6_2 p1 | omega)) ⟨by rw [E.2.2.2]; exact (show (rmN 131).frames + 1 ≤ (rmN 79).frames by decide), by rw [E.2.2.2]; exact (show 8 + (mNL (miB 131) + 11) + (rmN 131).locals ≤ (rmN 79).locals by decide), by rw [E.2.2.2]; exact (show 0 + (rmN 131).cells ≤ (rmN 79).cells by decide), by rw [E.2.2.2]; exact (show 0 + (rmN 131).slots ≤ (rmN 79).slots by decide)⟩ (Nat.le_of_ble_eq_true rfl) (fun vv s24 hq => ?_) (fun ee s24 hq => ?_)
              rotate_left
              · obtain ⟨Is24, Fs24, JBYW_s24, JTKS_s24, e25, hv, hrs24, hps24⟩ := hq; cases hv
              obtain ⟨Is24, Fs24, JBYW_s24, JTKS_s24, e25, hv, hrs24, hps24⟩ := hq
              cases hv
              have Gs24 := fm_ts Gs21 Fs24 (by decide) (by decide)
              have JBYW_s24 : BYW B N s24 := BYW_fm Fs24 (by decide) JBYW_s21
              have JTKS_s24 : TKS B N s24 := TKS_fm Fs24 (by decide) JTKS_s21
              have ws24_2 : iI s24 2 = iI s21 2 := fm_i Fs24 (by decide)
              have ws24_1 : iI s24 1 = iI s21 1 := fm_i Fs24 (by decide)
              have ws24_4 : iI s24 4 = iI s21 4 := fm_i Fs24 (by decide)
              have ws24_5 : iI s24 5 = iI s21 5 := fm_i Fs24 (by decide)
              have ws24_6 : iI s24 6 = iI s21 6 := fm_i Fs24 (by decide)
              have hws24 : (e25 = 1 ∧ whV B N (iI s 4) = 234466237) ∨ (e25 = 0 ∧ whV B N (iI s 4) ≠ 234466237) := by have h := hps24; rw [show iI s21 4 = iI s 4 by omega, show whL [112, 105, 101, 99, 101, 115] 0 = 234466237 by decide] at h; exact h
              show WS k 110 [(0, .ref (A 19))] [.int (Int32.ofInt e25)] (Wd A dT s24) 0 0
              refine z_if_eq X (t := 118) (show cdA 79 110 = some (.ifCond .eq 8, 3, 0, 0, 0) from rfl) (by decide) hrs24 (fun g26 => ?_) (fun g26 => ?_)
              ·
                refine z_bipush X (show cdA 79 118 = some (.bipush (-20), 2, 0, 0, (-20)) from rfl) ?_
                exact w_iret X.1 q hRt rfl (ax_d X (show cdA 79 120 = some (.ireturn, 1, 0, 0, 0) from rfl)) (Nat.zero_le _) (Nat.zero_le _) ⟨_, rfl, Is24, Gs24, JBYW_s24, JTKS_s24, (-20), rfl, (by decide), Or.inl ⟨rfl, nmc_n (by omega) (by omega) (by omega) (by omega) (by omega) (by omega) (by omega)⟩⟩
              ·
                refine z_bipush X (show cdA 79 113 = some (.bipush (-7), 2, 0, 0, (-7)) from rfl) ?_
                refine z_goto X (t := 120) (show cdA 79 115 = some (.goto 5, 3, 0, 0, 0) from rfl) (by decide) ?_
                exact w_iret X.1 q hRt rfl (ax_d X (show cdA 79 120 = some (.ireturn, 1, 0, 0, 0) from rfl)) (Nat.zero_le _) (Nat.zero_le _) ⟨_, rfl, Is24, Gs24, JBYW_s24, JTKS_s24, (-7), rfl, (by decide), Or.inr ⟨by decide, by decide, nmc_6 (by omega)⟩⟩
            ·
              refine z_bipush X (show cdA 79 96 = some (.bipush (-6), 2, 0, 0, (-6)) from rfl) ?_
              refine z_goto X (t := 120) (show cdA 79 98 = some (.goto 22, 3, 0, 0, 0) from rfl) (by decide) ?_
              exact w_iret X.1 q hRt rfl (ax_d X (show cdA 79 120 = some (.ireturn, 1, 0, 0, 0) from rfl)) (Nat.zero_le _) (Nat.zero_le _) ⟨_, rfl, Is21, Gs21, JBYW_s21, JTKS_s21, (-6), rfl, (by decide), Or.inr ⟨by decide, by decide, nmc_5 (by omega)⟩⟩
          ·
            refine z_bipush X (show cdA 79 79 = some (.bipush (-5), 2, 0, 0, (-5)) from rfl) ?_
            refine z_goto X (t := 120) (show cdA 79 81 = some (.goto 39, 3, 0, 0, 0) from rfl) (by decide) ?_
            exact w_iret X.1 q hRt rfl (ax_d X (show cdA 79 120 = some (.ireturn, 1, 0, 0, 0) from rfl)) (Nat.zero_le _) (Nat.zero_le _) ⟨_, rfl, Is18, Gs18, JBYW_s18, JTKS_s18, (-5), rfl, (by decide), Or.inr ⟨by decide, by decide, nmc_4 (by omega)⟩⟩
        ·
          refine z_bipush X (show cdA 79 62 = some (.bipush (-4), 2, 0, 0, (-4)) from rfl) ?_
          refine z_goto X (t := 120) (show cdA 79 64 = some (.goto 56, 3, 0, 0, 0) from rfl) (by decide) ?_
          exact w_iret X.1 q hRt rfl (ax_d X (show cdA 79 120 = some (.ireturn, 1, 0, 0, 0) from rfl)) (Nat.zero_le _) (Nat.zero_le _) ⟨_, rfl, Is15, Gs15, JBYW_s15, JTKS_s15, (-4), rfl, (by decide), Or.inr ⟨by decide, by decide, nmc_3 (by omega)⟩⟩
      ·
        refine z_bipush X (show cdA 79 45 = some (.bipush (-3), 2, 0, 0, (-3)) from rfl) ?_
        refine z_goto X (t := 120) (show cdA 79 47 = some (.goto 73, 3, 0, 0, 0) from rfl) (by decide) ?_
        exact w_iret X.1 q hRt rfl (ax_d X (show cdA 79 120 = some (.ireturn, 1, 0, 0, 0) from rfl)) (Nat.zero_le _) (Nat.zero_le _) ⟨_, rfl, Is12, Gs12, JBYW_s12, JTKS_s12, (-3), rfl, (by decide), Or.inr ⟨by decide, by decide, nmc_2 (by omega)⟩⟩
    ·
      refine z_bipush X (show cdA 79 28 = some (.bipush (-2), 2, 0, 0, (-2)) from rfl) ?_
      refine z_goto X (t := 120) (show cdA 79 30 = some (.goto 90, 3, 0, 0, 0) from rfl) (by decide) ?_
      exact w_iret X.1 q hRt rfl (ax_d X (show cdA 79 120 = some (.ireturn, 1, 0, 0, 0) from rfl)) (Nat.zero_le _) (Nat.zero_le _) ⟨_, rfl, Is9, Gs9, JBYW_s9, JTKS_s9, (-2), rfl, (by decide), Or.inr ⟨by decide, by decide, nmc_1 (by omega)⟩⟩
  ·
    refine z_const X (show cdA 79 12 = some (.iconst (-1), 1, 0, 0, 0) from rfl) ?_
    refine z_goto X (t := 120) (show cdA 79 13 = some (.goto 107, 3, 0, 0, 0) from rfl) (by decide) ?_
    exact w_iret X.1 q hRt rfl (ax_d X (show cdA 79 120 = some (.ireturn, 1, 0, 0, 0) from rfl)) (Nat.zero_le _) (Nat.zero_le _) ⟨_, rfl, Is6, Gs6, JBYW_s6, JTKS_s6, (-1), rfl, (by decide), Or.inr ⟨by decide, by decide, nmc_0 (by omega)⟩⟩
set_option maxRecDepth 4000 in
theorem c7_two03 (G : GX l s0 D tys a0 dT) {B : Nat → Int} {N : Int} (SF : SF0 s0) (GT : TXw0 s0) (I : Bd s) (jBYW : BYW B N s) (jTKS : TKS B N s) {x : Int} (p0 : (x = -13 ∧ whV B N (iI s 4) = 6476969) ∨ (x = -14 ∧ whV B N (iI s 4) = 267347)) (p1 : iI s 2 ≤ iI s 1) (p2 : iI s 4 ≤ iI s 2) (p3 : 6 - iI s 19 ≤ ((0 : Nat) : Int)) (p4 : iI s 16 ≤ iI s 4) : CT l s0 D A dT 78 (rkR (4 * (0))) [.ref (A 19), .int (Int32.ofInt x)] s (fun o t => Bd t ∧ Fm [2, 4, 6, 5, 7, 8, 19, 16] [18] s t ∧ BYW B N t ∧ TKS B N t ∧ ∃ e, o = .inl (some (.int (Int32.ofInt e))) ∧ rng e ∧ ((e = 0 ∨ (e = 1 ∧ iI t 19 = iI s 19 ∧ iI s 4 ≤ iI t 4 ∧ iI t 4 ≤ N ∧ iI t 16 + iI s 4 ≤ iI s 16 + iI t 4)) ∧ iI t 2 ≤ iI t 1 ∧ iI t 4 ≤ iI t 2 ∧ RDc B N 0 (iI s 4) (iI s 19) (DL s) t e)) := by
  refine ct_ofX G (by decide) (Nat.le_of_ble_eq_true rfl) (fun k X E ET hRt hXt q => ?_)
  show WS k 0 [(0, .ref (A 19)), (1, .int (Int32.ofInt x))] [] _ 0 0
  have F : Fm [2, 4, 6, 5, 7, 8, 19, 16] [18] s s := fm_rf _ _ s
  have hN := jBYW.2.1
  have hW := jBYW.2.2
  have hdg := tkw_dg jTKS
  have hwd := tkw_wd jTKS
  have hwl : whV B N (iI s 4) = 6476969 ∨ whV B N (iI s 4) = 267347 := by omega
  have hnc := wh_no hwl
  have hk3 : iI s 5 = -3 := Classical.byContradiction (fun q => by have := hwd.2 q; omega)
  have hnd := hdg.2 (by omega)
  have b1 : (0 : Int) ≤ iI s 2 ∧ iI s 2 ≤ 200 := I.1 2
  have b2 : (0 : Int) ≤ iI s 1 ∧ iI s 1 ≤ 200 := I.1 1
  have b3 : (0 : Int) ≤ iI s 4 ∧ iI s 4 ≤ 200 := I.1 4
  have b4 : ((-3) : Int) ≤ iI s 5 ∧ iI s 5 ≤ 255 := I.1 5
  have b5 : (0 : Int) ≤ iI s 6 ∧ iI s 6 ≤ 100000 := I.1 6
  have b6 : (0 : Int) ≤ iI s 19 ∧ iI s 19 ≤ 6 := I.1 19
  have b7 : (0 : Int) ≤ iI s 16 ∧ iI s 16 ≤ 200 := I.1 16
  have b8 : (0 : Int) ≤ iI s 7 ∧ iI s 7 ≤ 9 := I.1 7
  refine z_aload_n X (x := A 19) (show cdA 78 0 = some (.aload_n 0, 1, 0, 0, 0) from rfl) (List.Mem.head _) ?_
  refine s_getR X 19 (show cdA 78 1 = some (.getfield 31, 3, 7, 0, 0) from rfl) (by decide) rfl rfl ?_
  refine z_callV X 1 (rm := rmN 129) (As := []) (st := []) (show cdA 78 4 = some (.invokevirtual 85, 3, 129, 0, 0) from rfl) rfl (by decide) rfl (by rw [E.1, E.2.1, E.2.2.1]; exact c10_step3 G I jBYW (by first | exact p1 | omega)) ⟨by rw [E.2.2.2]; exact (show 7 + 1 ≤ (12 + (4 * (0))) from oq_e494e03c), by rw [E.2.2.2]; exact (show 8 + (1 + 11) + 121 ≤ (500 + 45 * (4 * (0))) from oq_635cae36), by rw [E.2.2.2]; exact Nat.le_refl 0, by rw [E.2.2.2]; exact Nat.le_refl 0⟩ (Nat.le_of_ble_eq_true rfl) (fun vv s9 hq => ?_) (fun ee s9 hq => ?_)
  rotate_left
  · obtain ⟨Is9, Fs9, JBYW_s9, JTKS_s9, hv, hps9⟩ := hq; cases hv
  obtain ⟨Is9, Fs9, JBYW_s9, JTKS_s9, hv, hps9⟩ := hq
  cases hv
  have Gs9 := fm_ts F Fs9 (by decide) (by decide)
  have JBYW_s9 : BYW B N s9 := BYW_fm Fs9 (by decide) jBYW
  have b11 : (0 : Int) ≤ iI s9 2 ∧ iI s9 2 ≤ 200 := Is9.1 2
  have ws9_1 : iI s9 1 = iI s 1 := fm_i Fs9 (by decide)
  have b12 : (0 : Int) ≤ iI s9 4 ∧ iI s9 4 ≤ 200 := Is9.1 4
  have b13 : ((-3) : Int) ≤ iI s9 5 ∧ iI s9 5 ≤ 255 := Is9.1 5
  have b14 : (0 : Int) ≤ iI s9 6 ∧ iI s9 6 ≤ 100000 := Is9.1 6
  have ws9_19 : iI s9 19 = iI s 19 := fm_i Fs9 (by decide)
  have ws9_16 : iI s9 16 = iI s 16 := fm_i Fs9 (by decide)
  have ws9_7 : iI s9 7 = iI s 7 := fm_i Fs9 (by decide)
  have dls9 : DL s9 = DL s := (DL_fm Fs9 (by decide) (by decide)).trans rfl
  show WS k 7 [(0, .ref (A 19)), (1, .int (Int32.ofInt x))] [] (Wd A dT s9) 0 0
  have hs1 : iI s9 4 = sk B N (wdE B N (iI s 4)) := by rw [hps9.2.2.1, show iI s 2 = wdE B N (iI s 4) by have := (hwd.1 (by omega)).1; omega]
  have hc1 := tkw_ch (x := 40) JTKS_s9 (by decide) (by decide) (by decide)
  rw [hs1] at hc1
  refine z_aload_n X (x := A 19) (show cdA 78 7 = some (.aload_n 0, 1, 0, 0, 0) from rfl) (List.Mem.head _) ?_
  refine s_getR X 19 (show cdA 78 8 = some (.getfield 31, 3, 7, 0, 0) from rfl) (by decide) rfl rfl ?_
  refine z_getI X 1 (show cdA 78 11 = some (.getfield 47, 3, 10, 6, 0) from rfl) (by decide) rfl rfl ?_
  have b15 : ((-3) : Int) ≤ iI s9 5 ∧ iI s9 5 ≤ 255 := Is9.1 5
  refine z_bipush X (show cdA 78 14 = some (.bipush 40, 2, 0, 0, 40) from rfl) ?_
  refine z_icmp_eq X (t := 28) (show cdA 78 16 = some (.if_icmp .eq 12, 3, 0, 0, 0) from rfl) (by decide) (rng_to _) (by decide) (fun g16 => ?_) (fun g16 => ?_)
  ·
    have hC := (hc1.1 (by omega)).1
    have ha1 := (hc1.1 (by omega)).2
    refine z_aload_n X (x := A 19) (show cdA 78 28 = some (.aload_n 0, 1, 0, 0, 0) from rfl) (List.Mem.head _) ?_
    refine z_callV X 19 (rm := rmN 80) (As := []) (st := []) (show cdA 78 29 = some (.invokevirtual 113, 3, 80, 0, 0) from rfl) rfl (by decide) rfl (by rw [E.1, E.2.1, E.2.2.1]; exact c7_enter3 G Is9 JBYW_s9 JTKS_s9 (by first | exact hps9.1 | omega) (by first | exact hps9.2.1 | omega)) ⟨by rw [E.2.2.2]; exact (show 8 + 1 ≤ (12 + (4 * (0))) from oq_f7912654), by rw [E.2.2.2]; exact (show 8 + (1 + 11) + 143 ≤ (500 + 45 * (4 * (0))) from oq_8994f6bd), by rw [E.2.2.2]; exact Nat.le_refl 0, by rw [E.2.2.2]; exact Nat.le_refl 0⟩ (Nat.le_of_ble_eq_true rfl) (fun vv s17 hq => ?_) (fun ee s17 hq => ?_)
    rotate_left
    · obtain ⟨Is17, Fs17, JBYW_s17, JTKS_s17, e18, hv, hrs17, hps17⟩ := hq; cases hv
    obtain ⟨Is17, Fs17, JBYW_s17, JTKS_s17, e18, hv, hrs17, hps17⟩ := hq
    cases hv
    have Gs17 := fm_ts Gs9 Fs17 (by decide) (by decide)
    have JBYW_s17 : BYW B N s17 := BYW_fm Fs17 (by decide) JBYW_s9
    have b19 : (0 : Int) ≤ iI s17 2 ∧ iI s17 2 ≤ 200 := Is17.1 2
    have ws17_1 : iI s17 1 = iI s9 1 := fm_i Fs17 (by decide)
    have b20 : (0 : Int) ≤ iI s17 4 ∧ iI s17 4 ≤ 200 := Is17.1 4
    have b21 : ((-3) : Int) ≤ iI s17 5 ∧ iI s17 5 ≤ 255 := Is17.1 5
    have b22 : (0 : Int) ≤ iI s17 6 ∧ iI s17 6 ≤ 100000 := Is17.1 6
    have b23 : (0 : Int) ≤ iI s17 19 ∧ iI s17 19 ≤ 6 := Is17.1 19
    have ws17_16 : iI s17 16 = iI s9 16 := fm_i Fs17 (by decide)
    have b24 : (0 : Int) ≤ iI s17 7 ∧ iI s17 7 ≤ 9 := Is17.1 7
    have dls17 : DL s17 = DL s := (DL_fm Fs17 (by decide) (by decide)).trans dls9
    show WS k 32 [(0, .ref (A 19)), (1, .int (Int32.ofInt x))] [.int (Int32.ofInt e18)] (Wd A dT s17) 0 0
    refine z_if_eq X (t := 67) (show cdA 78 32 = some (.ifCond .eq 35, 3, 0, 0, 0) from rfl) (by decide) hrs17 (fun g25 => ?_) (fun g25 => ?_)
    ·
      refine z_const X (show cdA 78 67 = some (.iconst 0, 1, 0, 0, 0) from rfl) ?_
      have hRD : RDc B N 0 (iI s 4) (iI s 19) (DL s) s17 0 := rd_no (pu_t3 hnd hnc hwl hC (by omega)) (by decide) (by omega)
      exact w_iret X.1 q hRt (nar_ret (by first | exact Or.inl (by decide) | omega)) (ax_d X (show cdA 78 68 = some (.ireturn, 1, 0, 0, 0) from rfl)) (Nat.zero_le _) (Nat.zero_le _) ⟨_, rfl, Is17, Gs17, JBYW_s17, JTKS_s17, 0, rfl, (by decide), ⟨rd_post hRD rfl (by omega) (by first | exact b7.1 | omega) (by first | exact oq_0f93fca7 ws17_16 ws9_16 b7.1 | omega) (fun h9 => absurd rfl h9), by first | exact hps17.2.1 | omega, by first | exact hps17.2.2 | omega, hRD⟩⟩
    ·
      exfalso
      omega
  ·
    refine z_aload_n X (x := A 19) (show cdA 78 19 = some (.aload_n 0, 1, 0, 0, 0) from rfl) (List.Mem.head _) ?_
    refine s_getR X 19 (show cdA 78 20 = some (.getfield 31, 3, 7, 0, 0) from rfl) (by decide) rfl rfl ?_
    refine z_const X (show cdA 78 23 = some (.iconst 1, 1, 0, 0, 0) from rfl) ?_
    refine z_callV X 1 (rm := rmN 132) (As := [.int (Int32.ofInt 1)]) (st := []) (show cdA 78 24 = some (.invokevirtual 82, 3, 132, 0, 0) from rfl) rfl (by decide) rfl (by rw [E.1, E.2.1, E.2.2.1]; exact c10_refuse3 G Is9 (by first | exact ⟨by decide, by decide⟩ | omega)) ⟨by rw [E.2.2.2]; exact (show 7 + 1 ≤ (12 + (4 * (0))) from oq_e494e03c), by rw [E.2.2.2]; exact (show 8 + (2 + 11) + 122 ≤ (500 + 45 * (4 * (0))) from oq_812388c8), by rw [E.2.2.2]; exact Nat.le_refl 0, by rw [E.2.2.2]; exact Nat.le_refl 0⟩ (Nat.le_of_ble_eq_true rfl) (fun vv s26 hq => ?_) (fun ee s26 hq => ?_)
    rotate_left
    · obtain ⟨Is26, Fs26, e27, hv, hrs26, hps26⟩ := hq; cases hv
    obtain ⟨Is26, Fs26, e27, hv, hrs26, hps26⟩ := hq
    cases hv
    have Gs26 := fm_ts Gs9 Fs26 (by decide) (by decide)
    have JBYW_s26 : BYW B N s26 := BYW_fm Fs26 (by decide) JBYW_s9
    have JTKS_s26 : TKS B N s26 := TKS_fm Fs26 (by decide) JTKS_s9
    have ws26_2 : iI s26 2 = iI s9 2 := fm_i Fs26 (by decide)
    have ws26_1 : iI s26 1 = iI s9 1 := fm_i Fs26 (by decide)
    have ws26_4 : iI s26 4 = iI s9 4 := fm_i Fs26 (by decide)
    have ws26_5 : iI s26 5 = iI s9 5 := fm_i Fs26 (by decide)
    have ws26_6 : iI s26 6 = iI s9 6 := fm_i Fs26 (by decide)
    have ws26_19 : iI s26 19 = iI s9 19 := fm_i Fs26 (by decide)
    have ws26_16 : iI s26 16 = iI s9 16 := fm_i Fs26 (by decide)
    have b28 : (0 : Int) ≤ iI s26 7 ∧ iI s26 7 ≤ 9 := Is26.1 7
    have dls26 : DL s26 = DL s := (DL_fm Fs26 (by decide) (by decide)).trans dls9
    show WS k 27 [(0, .ref (A 19)), (1, .int (Int32.ofInt x))] [.int (Int32.ofInt e27)] (Wd A dT s26) 0 0
    have hRD : RDc B N 0 (iI s 4) (iI s 19) (DL s) s26 e27 := by rw [show e27 = 0 by omega]; exact rd_no (pu_t1 hnd hnc hwl (hc1.2 (by omega))) (by decide) (by omega)
    exact w_iret X.1 q hRt (nar_ret (by first | exact Or.inl (hps26.1) | omega)) (ax_d X (show cdA 78 27 = some (.ireturn, 1, 0, 0, 0) from rfl)) (Nat.zero_le _) (Nat.zero_le _) ⟨_, rfl, Is26, Gs26, JBYW_s26, JTKS_s26, e27, rfl, hrs26, ⟨rd_post hRD rfl (by omega) (by first | exact b7.1 | omega) (by first | exact oq_0f93fca7 ws26_16 ws9_16 b7.1 | omega) (fun h9 => by first | exact oq_1aa5be9e ws26_19 ws9_19 | omega), by first | exact oq_e7b9ecab ws26_1 ws26_2 hps9.1 | omega, by first | exact oq_e7b9ecab ws26_2 ws26_4 hps9.2.1 | omega, hRD⟩⟩
set_option maxRecDepth 4000 in
theorem c7_twoS3 (G : GX l s0 D tys a0 dT) {B : Nat → Int} {N : Int} (SF : SF0 s0) (GT : TXw0 s0) {r : Nat} (hS : ∀ {s : PS} , Bd s → BYW B N s → TKS B N s → (iI s 2 ≤ iI s 1) → (iI s 4 ≤ iI s 2) → (6 - iI s 19 ≤ ((r : Nat) : Int)) → (iI s 16 ≤ iI s 4) → CT l s0 D A dT 75 (rkR (4 * (r) + 3)) [.ref (A 19)] s (fun o t => Bd t ∧ Fm [2, 4, 6, 5, 7, 8, 19, 16] [18] s t ∧ BYW B N t ∧ TKS B N t ∧ ∃ e, o = .inl (some (.int (Int32.ofInt e))) ∧ rng e ∧ ((e = 0 ∨ (e = 1 ∧ iI t 19 = iI s 19 ∧ iI s 4 ≤ iI t 4 ∧ iI t 4 ≤ N ∧ iI t 16 + iI s 4 ≤ iI s 16 + iI t 4)) ∧ iI t 2 ≤ iI t 1 ∧ iI t 4 ≤ iI t 2 ∧ RDc B N 3 (iI s 4) (iI s 19) (DL s) t e))) (I : Bd s) (jBYW : BYW B N s) (jTKS : TKS B N s) {x : Int} (p0 : (x = -13 ∧ whV B N (iI s 4) = 6476969) ∨ (x = -14 ∧ whV B N (iI s 4) = 267347)) (p1 : iI s 2 ≤ iI s 1) (p2 : iI s 4 ≤ iI s 2) (p3 : 6 - iI s 19 ≤ ((r + 1 : Nat) : Int)) (p4 : iI s 16 ≤ iI s 4) : CT l s0 D A dT 78 (rkR (4 * (r + 1))) [.ref (A 19), .int (Int32.ofInt x)] s (fun o t => Bd t ∧ Fm [2, 4, 6, 5, 7, 8, 19, 16] [18] s t ∧ BYW B N t ∧ TKS B N t ∧ ∃ e, o = .inl (some (.int (Int32.ofInt e))) ∧ rng e ∧ ((e = 0 ∨ (e = 1 ∧ iI t 19 = iI s 19 ∧ iI s 4 ≤ iI t 4 ∧ iI t 4 ≤ N ∧ iI t 16 + iI s 4 ≤ iI s 16 + iI t 4)) ∧ iI t 2 ≤ iI t 1 ∧ iI t 4 ≤ iI t 2 ∧ RDc B N 0 (iI s 4) (iI s 19) (DL s) t e)) := by
  refine ct_ofX G (by decide) (Nat.le_of_ble_eq_true rfl) (fun k X E ET hRt hXt q => ?_)
  show WS k 0 [(0, .ref (A 19)), (1, .int (Int32.ofInt x))] [] _ 0 0
  have F : Fm [2, 4, 6, 5, 7, 8, 19, 16] [18] s s := fm_rf _ _ s
  have hN := jBYW.2.1
  have hW := jBYW.2.2
  have hdg := tkw_dg jTKS
  have hwd := tkw_wd jTKS
  have hwl : whV B N (iI s 4) = 6476969 ∨ whV B N (iI s 4) = 267347 := by omega
  have hnc := wh_no hwl
  have hk3 : iI s 5 = -3 := Classical.byContradiction (fun q => by have := hwd.2 q; omega)
  have hnd := hdg.2 (by omega)
  have b1 : (0 : Int) ≤ iI s 2 ∧ iI s 2 ≤ 200 := I.1 2
  have b2 : (0 : Int) ≤ iI s 1 ∧ iI s 1 ≤ 200 := I.1 1
  have b3 : (0 : Int) ≤ iI s 4 ∧ iI s 4 ≤ 200 := I.1 4
  have b4 : ((-3) : Int) ≤ iI s 5 ∧ iI s 5 ≤ 255 := I.1 5
  have b5 : (0 : Int) ≤ iI s 6 ∧ iI s 6 ≤ 100000 := I.1 6
  have b6 : (0 : Int) ≤ iI s 19 ∧ iI s 19 ≤ 6 := I.1 19
  have b7 : (0 : Int) ≤ iI s 16 ∧ iI s 16 ≤ 200 := I.1 16
  have b8 : (0 : Int) ≤ iI s 7 ∧ iI s 7 ≤ 9 := I.1 7
  refine z_aload_n X (x := A 19) (show cdA 78 0 = some (.aload_n 0, 1, 0, 0, 0) from rfl) (List.Mem.head _) ?_
  refine s_getR X 19 (show cdA 78 1 = some (.getfield 31, 3, 7, 0, 0) from rfl) (by decide) rfl rfl ?_
  refine z_callV X 1 (rm := rmN 129) (As := []) (st := []) (show cdA 78 4 = some (.invokevirtual 85, 3, 129, 0, 0) from rfl) rfl (by decide) rfl (by rw [E.1, E.2.1, E.2.2.1]; exact c10_step3 G I jBYW (by first | exact p1 | omega)) ⟨by rw [E.2.2.2]; exact (show 7 + 1 ≤ (12 + (4 * (r + 1))) from oq_e86a2d6a r), by rw [E.2.2.2]; exact (show 8 + (1 + 11) + 121 ≤ (500 + 45 * (4 * (r + 1))) from oq_9756868e r), by rw [E.2.2.2]; exact Nat.le_refl 0, by rw [E.2.2.2]; exact Nat.le_refl 0⟩ (Nat.le_of_ble_eq_true rfl) (fun vv s9 hq => ?_) (fun ee s9 hq => ?_)
  rotate_left
  · obtain ⟨Is9, Fs9, JBYW_s9, JTKS_s9, hv, hps9⟩ := hq; cases hv
  obtain ⟨Is9, Fs9, JBYW_s9, JTKS_s9, hv, hps9⟩ := hq
  cases hv
  have Gs9 := fm_ts F Fs9 (by decide) (by decide)
  have JBYW_s9 : BYW B N s9 := BYW_fm Fs9 (by decide) jBYW
  have b11 : (0 : Int) ≤ iI s9 2 ∧ iI s9 2 ≤ 200 := Is9.1 2
  have ws9_1 : iI s9 1 = iI s 1 := fm_i Fs9 (by decide)
  have b12 : (0 : Int) ≤ iI s9 4 ∧ iI s9 4 ≤ 200 := Is9.1 4
  have b13 : ((-3) : Int) ≤ iI s9 5 ∧ iI s9 5 ≤ 255 := Is9.1 5
  have b14 : (0 : Int) ≤ iI s9 6 ∧ iI s9 6 ≤ 100000 := Is9.1 6
  have ws9_19 : iI s9 19 = iI s 19 := fm_i Fs9 (by decide)
  have ws9_16 : iI s9 16 = iI s 16 := fm_i Fs9 (by decide)
  have ws9_7 : iI s9 7 = iI s 7 := fm_i Fs9 (by decide)
  have dls9 : DL s9 = DL s := (DL_fm Fs9 (by decide) (by decide)).trans rfl
  show WS k 7 [(0, .ref (A 19)), (1, .int (Int32.ofInt x))] [] (Wd A dT s9) 0 0
  have hs1 : iI s9 4 = sk B N (wdE B N (iI s 4)) := by rw [hps9.2.2.1, show iI s 2 = wdE B N (iI s 4) by have := (hwd.1 (by omega)).1; omega]
  have hc1 := tkw_ch (x := 40) JTKS_s9 (by decide) (by decide) (by decide)
  rw [hs1] at hc1
  refine z_aload_n X (x := A 19) (show cdA 78 7 = some (.aload_n 0, 1, 0, 0, 0) from rfl) (List.Mem.head _) ?_
  refine s_getR X 19 (show cdA 78 8 = some (.getfield 31, 3, 7, 0, 0) from rfl) (by decide) rfl rfl ?_
  refine z_getI X 1 (show cdA 78 11 = some (.getfield 47, 3, 10, 6, 0) from rfl) (by decide) rfl rfl ?_
  have b15 : ((-3) : Int) ≤ iI s9 5 ∧ iI s9 5 ≤ 255 := Is9.1 5
  refine z_bipush X (show cdA 78 14 = some (.bipush 40, 2, 0, 0, 40) from rfl) ?_
  refine z_icmp_eq X (t := 28) (show cdA 78 16 = some (.if_icmp .eq 12, 3, 0, 0, 0) from rfl) (by decide) (rng_to _) (by decide) (fun g16 => ?_) (fun g16 => ?_)
  ·
    have hC := (hc1.1 (by omega)).1
    have ha1 := (hc1.1 (by omega)).2
    refine z_aload_n X (x := A 19) (show cdA 78 28 = some (.aload_n 0, 1, 0, 0, 0) from rfl) (List.Mem.head _) ?_
    refine z_callV X 19 (rm := rmN 80) (As := []) (st := []) (show cdA 78 29 = some (.invokevirtual 113, 3, 80, 0, 0) from rfl) rfl (by decide) rfl (by rw [E.1, E.2.1, E.2.2.1]; exact c7_enter3 G Is9 JBYW_s9 JTKS_s9 (by first | exact hps9.1 | omega) (by first | exact hps9.2.1 | omega)) ⟨by rw [E.2.2.2]; exact (show 8 + 1 ≤ (12 + (4 * (r + 1))) from oq_b3b61940 r), by rw [E.2.2.2]; exact (show 8 + (1 + 11) + 143 ≤ (500 + 45 * (4 * (r + 1))) from oq_5e0a067b r), by rw [E.2.2.2]; exact Nat.le_refl 0, by rw [E.2.2.2]; exact Nat.le_refl 0⟩ (Nat.le_of_ble_eq_true rfl) (fun vv s17 hq => ?_) (fun ee s17 hq => ?_)
    rotate_left
    · obtain ⟨Is17, Fs17, JBYW_s17, JTKS_s17, e18, hv, hrs17, hps17⟩ := hq; cases hv
    obtain ⟨Is17, Fs17, JBYW_s17, JTKS_s17, e18, hv, hrs17, hps17⟩ := hq
    cases hv
    have Gs17 := fm_ts Gs9 Fs17 (by decide) (by decide)
    have JBYW_s17 : BYW B N s17 := BYW_fm Fs17 (by decide) JBYW_s9
    have b19 : (0 : Int) ≤ iI s17 2 ∧ iI s17 2 ≤ 200 := Is17.1 2
    have ws17_1 : iI s17 1 = iI s9 1 := fm_i Fs17 (by decide)
    have b20 : (0 : Int) ≤ iI s17 4 ∧ iI s17 4 ≤ 200 := Is17.1 4
    have b21 : ((-3) : Int) ≤ iI s17 5 ∧ iI s17 5 ≤ 255 := Is17.1 5
    have b22 : (0 : Int) ≤ iI s17 6 ∧ iI s17 6 ≤ 100000 := Is17.1 6
    have b23 : (0 : Int) ≤ iI s17 19 ∧ iI s17 19 ≤ 6 := Is17.1 19
    have ws17_16 : iI s17 16 = iI s9 16 := fm_i Fs17 (by decide)
    have b24 : (0 : Int) ≤ iI s17 7 ∧ iI s17 7 ≤ 9 := Is17.1 7
    have dls17 : DL s17 = DL s := (DL_fm Fs17 (by decide) (by decide)).trans dls9
    show WS k 32 [(0, .ref (A 19)), (1, .int (Int32.ofInt x))] [.int (Int32.ofInt e18)] (Wd A dT s17) 0 0
    refine z_if_eq X (t := 67) (show cdA 78 32 = some (.ifCond .eq 35, 3, 0, 0, 0) from rfl) (by decide) hrs17 (fun g25 => ?_) (fun g25 => ?_)
    ·
      refine z_const X (show cdA 78 67 = some (.iconst 0, 1, 0, 0, 0) from rfl) ?_
      have hRD : RDc B N 0 (iI s 4) (iI s 19) (DL s) s17 0 := rd_no (pu_t3 hnd hnc hwl hC (by omega)) (by decide) (by omega)
      exact w_iret X.1 q hRt (nar_ret (by first | exact Or.inl (by decide) | omega)) (ax_d X (show cdA 78 68 = some (.ireturn, 1, 0, 0, 0) from rfl)) (Nat.zero_le _) (Nat.zero_le _) ⟨_, rfl, Is17, Gs17, JBYW_s17, JTKS_s17, 0, rfl, (by decide), ⟨rd_post hRD rfl (by omega) (by first | exact b7.1 | omega) (by first | exact oq_0f93fca7 ws17_16 ws9_16 b7.1 | omega) (fun h9 => absurd rfl h9), by first | exact hps17.2.1 | omega, by first | exact hps17.2.2 | omega, hRD⟩⟩
    ·
      have hs2 : iI s17 4 = sk B N (sk B N (wdE B N (iI s 4)) + 1) := by exact Or.elim hps17.1 (fun q => by omega) (fun q => by rw [q.2.2.2.1, show iI s9 2 = sk B N (wdE B N (iI s 4)) + 1 by omega])
      refine z_aload_n X (x := A 19) (show cdA 78 35 = some (.aload_n 0, 1, 0, 0, 0) from rfl) (List.Mem.head _) ?_
      refine z_callV X 19 (rm := (rkR (4 * (r) + 3))) (As := []) (st := []) (show cdA 78 36 = some (.invokevirtual 88, 3, 75, 0, 0) from rfl) rfl (by decide) rfl (by rw [E.1, E.2.1, E.2.2.1]; exact hS Is17 JBYW_s17 JTKS_s17 (by first | exact hps17.2.1 | omega) (by first | exact hps17.2.2 | omega) (by first | exact oq_72a45466 g25 hps17.1 ws9_19 p3 | omega) (by first | exact oq_8ca3b03a g25 ws17_16 hps17.1 ws9_16 hps9.2.2.2 hps9.2.1 p4 p2 | omega)) ⟨by rw [E.2.2.2]; exact (show (12 + (4 * (r) + 3)) + 1 ≤ (12 + (4 * (r + 1))) from oq_cba25b15 r), by rw [E.2.2.2]; exact (show 8 + (3 + 11) + (500 + 45 * (4 * (r) + 3)) ≤ (500 + 45 * (4 * (r + 1))) from oq_42f07b36 r), by rw [E.2.2.2]; exact Nat.le_refl 0, by rw [E.2.2.2]; exact Nat.le_refl 0⟩ (Nat.le_of_ble_eq_true rfl) (fun vv s26 hq => ?_) (fun ee s26 hq => ?_)
      rotate_left
      · obtain ⟨Is26, Fs26, JBYW_s26, JTKS_s26, e27, hv, hrs26, hps26⟩ := hq; cases hv
      obtain ⟨Is26, Fs26, JBYW_s26, JTKS_s26, e27, hv, hrs26, hps26⟩ := hq
      cases hv
      have Gs26 := fm_ts Gs17 Fs26 (by decide) (by decide)
      have JBYW_s26 : BYW B N s26 := BYW_fm Fs26 (by decide) JBYW_s17
      have b28 : (0 : Int) ≤ iI s26 2 ∧ iI s26 2 ≤ 200 := Is26.1 2
      have ws26_1 : iI s26 1 = iI s17 1 := fm_i Fs26 (by decide)
      have b29 : (0 : Int) ≤ iI s26 4 ∧ iI s26 4 ≤ 200 := Is26.1 4
      have b30 : ((-3) : Int) ≤ iI s26 5 ∧ iI s26 5 ≤ 255 := Is26.1 5
      have b31 : (0 : Int) ≤ iI s26 6 ∧ iI s26 6 ≤ 100000 := Is26.1 6
      have b32 : (0 : Int) ≤ iI s26 19 ∧ iI s26 19 ≤ 6 := Is26.1 19
      have b33 : (0 : Int) ≤ iI s26 16 ∧ iI s26 16 ≤ 200 := Is26.1 16
      have b34 : (0 : Int) ≤ iI s26 7 ∧ iI s26 7 ≤ 9 := Is26.1 7
      show WS k 39 [(0, .ref (A 19)), (1, .int (Int32.ofInt x))] [.int (Int32.ofInt e27)] (Wd A dT s26) 0 0
      refine z_if_eq X (t := 67) (show cdA 78 39 = some (.ifCond .eq 28, 3, 0, 0, 0) from rfl) (by decide) hrs26 (fun g35 => ?_) (fun g35 => ?_)
      ·
        refine z_const X (show cdA 78 67 = some (.iconst 0, 1, 0, 0, 0) from rfl) ?_
        have hRD : RDc B N 0 (iI s 4) (iI s 19) (DL s) s26 0 := rd_bad (by have h := hps26.2.2.2; rw [show iI s17 4 = sk B N ((sk B N (wdE B N (iI s 4))) + 1) by first | exact hs2 | omega, show iI s17 19 = iI s 19 + 1 by first | exact oq_60a36124 g25 hps17.1 ws9_19 | omega] at h; exact h) (by omega) (by omega) (fun r h z => pu_tb hnd hnc hwl hC (by omega) h z)
        exact w_iret X.1 q hRt (nar_ret (by first | exact Or.inl (by decide) | omega)) (ax_d X (show cdA 78 68 = some (.ireturn, 1, 0, 0, 0) from rfl)) (Nat.zero_le _) (Nat.zero_le _) ⟨_, rfl, Is26, Gs26, JBYW_s26, JTKS_s26, 0, rfl, (by decide), ⟨rd_post hRD rfl (by omega) (by first | exact b7.1 | omega) (by first | exact b33.1 | omega) (fun h9 => absurd rfl h9), by first | exact hps26.2.1 | omega, by first | exact hps26.2.2.1 | omega, hRD⟩⟩
      ·
        refine z_aload_n X (x := A 19) (show cdA 78 42 = some (.aload_n 0, 1, 0, 0, 0) from rfl) (List.Mem.head _) ?_
        refine z_bipush X (show cdA 78 43 = some (.bipush 44, 2, 0, 0, 44) from rfl) ?_
        refine z_callV X 19 (rm := rmN 81) (As := [.int (Int32.ofInt 44)]) (st := []) (show cdA 78 45 = some (.invokevirtual 95, 3, 81, 0, 0) from rfl) rfl (by decide) rfl (by rw [E.1, E.2.1, E.2.2.1]; exact c7_pass3 G Is26 JBYW_s26 JTKS_s26 (by first | exact ⟨by decide, by decide⟩ | omega) (by first | exact Or.inl (by decide) | omega) (by first | exact Or.inl (by decide) | omega) (by first | exact hps26.2.1 | omega) (by first | exact hps26.2.2.1 | omega)) ⟨by rw [E.2.2.2]; exact (show 8 + 1 ≤ (12 + (4 * (r + 1))) from oq_b3b61940 r), by rw [E.2.2.2]; exact (show 8 + (2 + 11) + 143 ≤ (500 + 45 * (4 * (r + 1))) from oq_035df8d4 r), by rw [E.2.2.2]; exact Nat.le_refl 0, by rw [E.2.2.2]; exact Nat.le_refl 0⟩ (Nat.le_of_ble_eq_true rfl) (fun vv s36 hq => ?_) (fun ee s36 hq => ?_)
        rotate_left
        · obtain ⟨Is36, Fs36, JBYW_s36, JTKS_s36, e37, hv, hrs36, hps36⟩ := hq; cases hv
        obtain ⟨Is36, Fs36, JBYW_s36, JTKS_s36, e37, hv, hrs36, hps36⟩ := hq
        cases hv
        have Gs36 := fm_ts Gs26 Fs36 (by decide) (by decide)
        have JBYW_s36 : BYW B N s36 := BYW_fm Fs36 (by decide) JBYW_s26
        have b38 : (0 : Int) ≤ iI s36 2 ∧ iI s36 2 ≤ 200 := Is36.1 2
        have ws36_1 : iI s36 1 = iI s26 1 := fm_i Fs36 (by decide)
        have b39 : (0 : Int) ≤ iI s36 4 ∧ iI s36 4 ≤ 200 := Is36.1 4
        have b40 : ((-3) : Int) ≤ iI s36 5 ∧ iI s36 5 ≤ 255 := Is36.1 5
        have b41 : (0 : Int) ≤ iI s36 6 ∧ iI s36 6 ≤ 100000 := Is36.1 6
        have ws36_19 : iI s36 19 = iI s26 19 := fm_i Fs36 (by decide)
        have ws36_16 : iI s36 16 = iI s26 16 := fm_i Fs36 (by decide)
        have b42 : (0 : Int) ≤ iI s36 7 ∧ iI s36 7 ≤ 9 := Is36.1 7
        have dls36 : DL s36 = DL s26 := (DL_fm Fs36 (by decide) (by decide)).trans rfl
        show WS k 48 [(0, .ref (A 19)), (1, .int (Int32.ofInt x))] [.int (Int32.ofInt e37)] (Wd A dT s36) 0 0
        refine z_if_eq X (t := 67) (show cdA 78 48 = some (.ifCond .eq 19, 3, 0, 0, 0) from rfl) (by decide) hrs36 (fun g43 => ?_) (fun g43 => ?_)
        ·
          refine z_const X (show cdA 78 67 = some (.iconst 0, 1, 0, 0, 0) from rfl) ?_
          have hRD : RDc B N 0 (iI s 4) (iI s 19) (DL s) s36 0 := rd_tn hnd hnc hwl hC (by omega) (by have h := hps26.2.2.2; rw [show iI s17 4 = sk B N ((sk B N (wdE B N (iI s 4))) + 1) by first | exact hs2 | omega, show iI s17 19 = iI s 19 + 1 by first | exact oq_60a36124 g25 hps17.1 ws9_19 | omega] at h; exact h) (by omega) (by exact Or.elim hps36.2.2.2 (fun q => by omega) (fun q => by exact q.2.1)) (by exact Or.elim hps36.2.2.2 (fun q => by omega) (fun q => by rw [show iI s36 7 = iI s36 7 by omega]; exact q.2.2))
          exact w_iret X.1 q hRt (nar_ret (by first | exact Or.inl (by decide) | omega)) (ax_d X (show cdA 78 68 = some (.ireturn, 1, 0, 0, 0) from rfl)) (Nat.zero_le _) (Nat.zero_le _) ⟨_, rfl, Is36, Gs36, JBYW_s36, JTKS_s36, 0, rfl, (by decide), ⟨rd_post hRD rfl (by first | exact oq_1f39b54f g35 hps26.1 g25 hps17.1 hps9.2.2.2 hps9.2.1 p2 | omega) (by first | exact b7.1 | omega) (by first | exact oq_e4757433 ws36_16 b33.1 | omega) (fun h9 => absurd rfl h9), by first | exact hps36.2.1 | omega, by first | exact hps36.2.2.1 | omega, hRD⟩⟩
        ·
          refine z_aload_n X (x := A 19) (show cdA 78 51 = some (.aload_n 0, 1, 0, 0, 0) from rfl) (List.Mem.head _) ?_
          refine z_callV X 19 (rm := (rkR (4 * (r) + 3))) (As := []) (st := []) (show cdA 78 52 = some (.invokevirtual 88, 3, 75, 0, 0) from rfl) rfl (by decide) rfl (by rw [E.1, E.2.1, E.2.2.1]; exact hS Is36 JBYW_s36 JTKS_s36 (by first | exact hps36.2.1 | omega) (by first | exact hps36.2.2.1 | omega) (by first | exact oq_b1cec700 ws36_19 g35 hps26.1 g25 hps17.1 ws9_19 p3 | omega) (by first | exact oq_6e17e74f g43 ws36_16 hps36.1 g35 hps26.1 g25 ws17_16 hps17.1 ws9_16 hps9.2.2.2 hps9.2.1 p4 p2 | omega)) ⟨by rw [E.2.2.2]; exact (show (12 + (4 * (r) + 3)) + 1 ≤ (12 + (4 * (r + 1))) from oq_cba25b15 r), by rw [E.2.2.2]; exact (show 8 + (3 + 11) + (500 + 45 * (4 * (r) + 3)) ≤ (500 + 45 * (4 * (r + 1))) from oq_42f07b36 r), by rw [E.2.2.2]; exact Nat.le_refl 0, by rw [E.2.2.2]; exact Nat.le_refl 0⟩ (Nat.le_of_ble_eq_true rfl) (fun vv s44 hq => ?_) (fun ee s44 hq => ?_)
          rotate_left
          · obtain ⟨Is44, Fs44, JBYW_s44, JTKS_s44, e45, hv, hrs44, hps44⟩ := hq; cases hv
          obtain ⟨Is44, Fs44, JBYW_s44, JTKS_s44, e45, hv, hrs44, hps44⟩ := hq
          cases hv
          have Gs44 := fm_ts Gs36 Fs44 (by decide) (by decide)
          have JBYW_s44 : BYW B N s44 := BYW_fm Fs44 (by decide) JBYW_s36
          have b46 : (0 : Int) ≤ iI s44 2 ∧ iI s44 2 ≤ 200 := Is44.1 2
          have ws44_1 : iI s44 1 = iI s36 1 := fm_i Fs44 (by decide)
          have b47 : (0 : Int) ≤ iI s44 4 ∧ iI s44 4 ≤ 200 := Is44.1 4
          have b48 : ((-3) : Int) ≤ iI s44 5 ∧ iI s44 5 ≤ 255 := Is44.1 5
          have b49 : (0 : Int) ≤ iI s44 6 ∧ iI s44 6 ≤ 100000 := Is44.1 6
          have b50 : (0 : Int) ≤ iI s44 19 ∧ iI s44 19 ≤ 6 := Is44.1 19
          have b51 : (0 : Int) ≤ iI s44 16 ∧ iI s44 16 ≤ 200 := Is44.1 16
          have b52 : (0 : Int) ≤ iI s44 7 ∧ iI s44 7 ≤ 9 := Is44.1 7
          show WS k 55 [(0, .ref (A 19)), (1, .int (Int32.ofInt x))] [.int (Int32.ofInt e45)] (Wd A dT s44) 0 0
          refine z_if_eq X (t := 67) (show cdA 78 55 = some (.ifCond .eq 12, 3, 0, 0, 0) from rfl) (by decide) hrs44 (fun g53 => ?_) (fun g53 => ?_)
          ·
            refine z_const X (show cdA 78 67 = some (.iconst 0, 1, 0, 0, 0) from rfl) ?_
            have hRD : RDc B N 0 (iI s 4) (iI s 19) (DL s) s44 0 := rd_t2 (x := (if whV B N (iI s 4) = 6476969 then -13 else -14)) (y := s44) hnd hnc hwl hC (by omega) (by have h := hps26.2.2.2; rw [show iI s17 4 = sk B N ((sk B N (wdE B N (iI s 4))) + 1) by first | exact hs2 | omega, show iI s17 19 = iI s 19 + 1 by first | exact oq_60a36124 g25 hps17.1 ws9_19 | omega] at h; exact h) (dls17) (by omega) (by exact Or.elim hps36.2.2.2 (fun q => by exact q.2.1) (fun q => by omega)) (by have h := hps44.2.2.2; rw [show iI s36 4 = sk B N (iI s26 4 + 1) by exact Or.elim hps36.2.2.2 (fun q => by rw [show iI s36 4 = iI s36 4 by omega]; exact q.2.2) (fun q => by omega), show iI s36 19 = iI s 19 + 1 by omega] at h; exact h) (dls36) (Or.inl ⟨by omega, rfl, by omega⟩) rfl
            exact w_iret X.1 q hRt (nar_ret (by first | exact Or.inl (by decide) | omega)) (ax_d X (show cdA 78 68 = some (.ireturn, 1, 0, 0, 0) from rfl)) (Nat.zero_le _) (Nat.zero_le _) ⟨_, rfl, Is44, Gs44, JBYW_s44, JTKS_s44, 0, rfl, (by decide), ⟨rd_post hRD rfl (by first | exact oq_1f39b54f g35 hps26.1 g25 hps17.1 hps9.2.2.2 hps9.2.1 p2 | omega) (by first | exact b7.1 | omega) (by first | exact b51.1 | omega) (fun h9 => absurd rfl h9), by first | exact hps44.2.1 | omega, by first | exact hps44.2.2.1 | omega, hRD⟩⟩
          ·
            refine z_aload_n X (x := A 19) (show cdA 78 58 = some (.aload_n 0, 1, 0, 0, 0) from rfl) (List.Mem.head _) ?_
            refine z_bipush X (show cdA 78 59 = some (.bipush 41, 2, 0, 0, 41) from rfl) ?_
            refine z_callV X 19 (rm := rmN 81) (As := [.int (Int32.ofInt 41)]) (st := []) (show cdA 78 61 = some (.invokevirtual 95, 3, 81, 0, 0) from rfl) rfl (by decide) rfl (by rw [E.1, E.2.1, E.2.2.1]; exact c7_pass3 G Is44 JBYW_s44 JTKS_s44 (by first | exact ⟨by decide, by decide⟩ | omega) (by first | exact Or.inl (by decide) | omega) (by first | exact Or.inl (by decide) | omega) (by first | exact hps44.2.1 | omega) (by first | exact hps44.2.2.1 | omega)) ⟨by rw [E.2.2.2]; exact (show 8 + 1 ≤ (12 + (4 * (r + 1))) from oq_b3b61940 r), by rw [E.2.2.2]; exact (show 8 + (2 + 11) + 143 ≤ (500 + 45 * (4 * (r + 1))) from oq_035df8d4 r), by rw [E.2.2.2]; exact Nat.le_refl 0, by rw [E.2.2.2]; exact Nat.le_refl 0⟩ (Nat.le_of_ble_eq_true rfl) (fun vv s54 hq => ?_) (fun ee s54 hq => ?_)
            rotate_left
            · obtain ⟨Is54, Fs54, JBYW_s54, JTKS_s54, e55, hv, hrs54, hps54⟩ := hq; cases hv
            obtain ⟨Is54, Fs54, JBYW_s54, JTKS_s54, e55, hv, hrs54, hps54⟩ := hq
            cases hv
            have Gs54 := fm_ts Gs44 Fs54 (by decide) (by decide)
            have JBYW_s54 : BYW B N s54 := BYW_fm Fs54 (by decide) JBYW_s44
            have b56 : (0 : Int) ≤ iI s54 2 ∧ iI s54 2 ≤ 200 := Is54.1 2
            have ws54_1 : iI s54 1 = iI s44 1 := fm_i Fs54 (by decide)
            have b57 : (0 : Int) ≤ iI s54 4 ∧ iI s54 4 ≤ 200 := Is54.1 4
            have b58 : ((-3) : Int) ≤ iI s54 5 ∧ iI s54 5 ≤ 255 := Is54.1 5
            have b59 : (0 : Int) ≤ iI s54 6 ∧ iI s54 6 ≤ 100000 := Is54.1 6
            have ws54_19 : iI s54 19 = iI s44 19 := fm_i Fs54 (by decide)
            have ws54_16 : iI s54 16 = iI s44 16 := fm_i Fs54 (by decide)
            have b60 : (0 : Int) ≤ iI s54 7 ∧ iI s54 7 ≤ 9 := Is54.1 7
            have dls54 : DL s54 = DL s44 := (DL_fm Fs54 (by decide) (by decide)).trans rfl
            show WS k 64 [(0, .ref (A 19)), (1, .int (Int32.ofInt x))] [.int (Int32.ofInt e55)] (Wd A dT s54) 0 0
            refine z_if_ne X (t := 69) (show cdA 78 64 = some (.ifCond .ne 5, 3, 1, 0, 0) from rfl) (by decide) hrs54 (fun g61 => ?_) (fun g61 => ?_)
            ·
              refine z_aload_n X (x := A 19) (show cdA 78 69 = some (.aload_n 0, 1, 0, 0, 0) from rfl) (List.Mem.head _) ?_
              refine w_dup X.1 (ax_d X (show cdA 78 70 = some (.dup, 1, 0, 0, 0) from rfl)) rfl ?_
              refine z_getI X 19 (show cdA 78 71 = some (.getfield 44, 3, 7, 12, 0) from rfl) (by decide) rfl rfl ?_
              have b62 : (0 : Int) ≤ iI s54 19 ∧ iI s54 19 ≤ 6 := Is54.1 19
              refine z_const X (show cdA 78 74 = some (.iconst 1, 1, 0, 0, 0) from rfl) ?_
              refine z_sub X (show cdA 78 75 = some (.isub, 1, 0, 0, 0) from rfl) ?_
              refine s_putI X 19 (show cdA 78 76 = some (.putfield 44, 3, 7, 12, 0) from rfl) (by decide) rfl rfl (by decide) rfl rfl rfl ?_
              obtain ⟨s63, hs63⟩ : ∃ x0, x0 = uI s54 19 (Int32.ofInt ((iI s54 19) - 1)) := ⟨_, rfl⟩
              rw [← hs63]
              have Is63 : Bd s63 := by rw [hs63]; exact bd_I Is54 (show (0 : Int) ≤ ((iI s54 19) - 1) ∧ ((iI s54 19) - 1) ≤ 6 by first | exact ⟨by omega, oq_a9606c0d b62.2⟩ | omega) ⟨by first | exact oq_c1e961c7 b62.1 | omega, by first | exact oq_b383b26c b62.2 | omega⟩
              have Fs63 := fm_I (x := Int32.ofInt ((iI s54 19) - 1)) Gs54 (show 19 ∈ _ by decide)
              rw [← hs63] at Fs63
              have vs63 : iI s63 19 = ((iI s54 19) - 1) := by rw [hs63]; exact iI_u ⟨by first | exact oq_c1e961c7 b62.1 | omega, by first | exact oq_b383b26c b62.2 | omega⟩
              have ws63_2 : iI s63 2 = iI s54 2 := by rw [hs63]; rfl
              have ws63_1 : iI s63 1 = iI s54 1 := by rw [hs63]; rfl
              have ws63_4 : iI s63 4 = iI s54 4 := by rw [hs63]; rfl
              have ws63_5 : iI s63 5 = iI s54 5 := by rw [hs63]; rfl
              have ws63_6 : iI s63 6 = iI s54 6 := by rw [hs63]; rfl
              have ws63_16 : iI s63 16 = iI s54 16 := by rw [hs63]; rfl
              have ws63_7 : iI s63 7 = iI s54 7 := by rw [hs63]; rfl
              have dls63 : DL s63 = DL s44 := by rw [hs63]; exact dls54
              have fs63 : Fm [19] [] s54 s63 := by rw [hs63]; exact fm_I (fm_rf _ _ _) (show 19 ∈ _ by decide)
              have JBYW_s63 : BYW B N s63 := BYW_fm fs63 (by decide) JBYW_s54
              have JTKS_s63 : TKS B N s63 := TKS_fm fs63 (by decide) JTKS_s54
              refine z_aload_n X (x := A 19) (show cdA 78 79 = some (.aload_n 0, 1, 0, 0, 0) from rfl) (List.Mem.head _) ?_
              refine z_load_n X (x := x) (show cdA 78 80 = some (.iload_n 1, 1, 0, 0, 0) from rfl) (List.Mem.tail _ (List.Mem.head _)) ?_
              refine z_callV X 19 (rm := rmN 82) (As := [.int (Int32.ofInt x)]) (st := []) (show cdA 78 81 = some (.invokevirtual 103, 3, 82, 0, 0) from rfl) rfl (by decide) rfl (by rw [E.1, E.2.1, E.2.2.1]; exact c7_put3 G Is63 (by omega) (by omega)) ⟨by rw [E.2.2.2]; exact (show 6 + 1 ≤ (12 + (4 * (r + 1))) from oq_c97dc902 r), by rw [E.2.2.2]; exact (show 8 + (2 + 11) + 100 ≤ (500 + 45 * (4 * (r + 1))) from oq_b200f69d r), by rw [E.2.2.2]; exact Nat.le_refl 0, by rw [E.2.2.2]; exact Nat.le_refl 0⟩ (Nat.le_of_ble_eq_true rfl) (fun vv s64 hq => ?_) (fun ee s64 hq => ?_)
              rotate_left
              · obtain ⟨Is64, Fs64, hv, hps64⟩ := hq; cases hv
              obtain ⟨Is64, Fs64, hv, hps64⟩ := hq
              cases hv
              have Gs64 := fm_ts Fs63 Fs64 (by decide) (by decide)
              have JBYW_s64 : BYW B N s64 := BYW_fm Fs64 (by decide) JBYW_s63
              have JTKS_s64 : TKS B N s64 := TKS_fm Fs64 (by decide) JTKS_s63
              have ws64_2 : iI s64 2 = iI s63 2 := fm_i Fs64 (by decide)
              have ws64_1 : iI s64 1 = iI s63 1 := fm_i Fs64 (by decide)
              have ws64_4 : iI s64 4 = iI s63 4 := fm_i Fs64 (by decide)
              have ws64_5 : iI s64 5 = iI s63 5 := fm_i Fs64 (by decide)
              have ws64_6 : iI s64 6 = iI s63 6 := fm_i Fs64 (by decide)
              have ws64_19 : iI s64 19 = iI s63 19 := fm_i Fs64 (by decide)
              have b66 : (0 : Int) ≤ iI s64 16 ∧ iI s64 16 ≤ 200 := Is64.1 16
              have ws64_7 : iI s64 7 = iI s63 7 := fm_i Fs64 (by decide)
              have dls64 : DL s64 = DL s44 ++ [x] := by rw [hps64.2, dls63]
              show WS k 84 [(0, .ref (A 19)), (1, .int (Int32.ofInt x))] [] (Wd A dT s64) 0 0
              refine z_const X (show cdA 78 84 = some (.iconst 1, 1, 0, 0, 0) from rfl) ?_
              have hRD : RDc B N 0 (iI s 4) (iI s 19) (DL s) s64 1 := rd_t2 (x := x) (y := s54) hnd hnc hwl hC (by omega) (by have h := hps26.2.2.2; rw [show iI s17 4 = sk B N ((sk B N (wdE B N (iI s 4))) + 1) by first | exact hs2 | omega, show iI s17 19 = iI s 19 + 1 by omega] at h; exact h) (dls17) (by omega) (by exact Or.elim hps36.2.2.2 (fun q => by exact q.2.1) (fun q => by omega)) (by have h := hps44.2.2.2; rw [show iI s36 4 = sk B N (iI s26 4 + 1) by exact Or.elim hps36.2.2.2 (fun q => by rw [show iI s36 4 = iI s36 4 by omega]; exact q.2.2) (fun q => by omega), show iI s36 19 = iI s 19 + 1 by omega] at h; exact h) (dls36) (Or.inr ⟨by omega, (by have h := hps54.2.2.2; rw [show e55 = 1 by omega] at h; exact h), by omega, by omega, fun _ => dls64⟩) (by exact Or.elim p0 (fun q => by rw [if_pos q.2]; exact q.1) (fun q => by rw [if_neg (by omega)]; exact q.1))
              exact w_iret X.1 q hRt (nar_ret (by first | exact Or.inr (by decide) | omega)) (ax_d X (show cdA 78 85 = some (.ireturn, 1, 0, 0, 0) from rfl)) (Nat.zero_le _) (Nat.zero_le _) ⟨_, rfl, Is64, Gs64, JBYW_s64, JTKS_s64, 1, rfl, (by decide), ⟨rd_post hRD rfl (by omega) (by first | exact b7.1 | omega) (by first | exact b66.1 | omega) (fun h9 => by omega), by first | exact oq_4407eb3c ws64_1 ws64_2 ws63_1 ws63_2 hps54.2.1 | omega, by first | exact oq_4407eb3c ws64_2 ws64_4 ws63_2 ws63_4 hps54.2.2.1 | omega, hRD⟩⟩
            ·
              refine z_const X (show cdA 78 67 = some (.iconst 0, 1, 0, 0, 0) from rfl) ?_
              have hRD : RDc B N 0 (iI s 4) (iI s 19) (DL s) s54 0 := rd_t2 (x := x) (y := s54) hnd hnc hwl hC (by omega) (by have h := hps26.2.2.2; rw [show iI s17 4 = sk B N ((sk B N (wdE B N (iI s 4))) + 1) by first | exact hs2 | omega, show iI s17 19 = iI s 19 + 1 by omega] at h; exact h) (dls17) (by omega) (by exact Or.elim hps36.2.2.2 (fun q => by exact q.2.1) (fun q => by omega)) (by have h := hps44.2.2.2; rw [show iI s36 4 = sk B N (iI s26 4 + 1) by exact Or.elim hps36.2.2.2 (fun q => by rw [show iI s36 4 = iI s36 4 by omega]; exact q.2.2) (fun q => by omega), show iI s36 19 = iI s 19 + 1 by omega] at h; exact h) (dls36) (Or.inr ⟨by omega, (by have h := hps54.2.2.2; rw [show e55 = 0 by omega] at h; exact h), by omega, by omega, fun h => absurd rfl h⟩) (by exact Or.elim p0 (fun q => by rw [if_pos q.2]; exact q.1) (fun q => by rw [if_neg (by omega)]; exact q.1))
              exact w_iret X.1 q hRt (nar_ret (by first | exact Or.inl (by decide) | omega)) (ax_d X (show cdA 78 68 = some (.ireturn, 1, 0, 0, 0) from rfl)) (Nat.zero_le _) (Nat.zero_le _) ⟨_, rfl, Is54, Gs54, JBYW_s54, JTKS_s54, 0, rfl, (by decide), ⟨rd_post hRD rfl (by first | exact oq_4532ddbf g53 hps44.1 g43 hps36.1 g35 hps26.1 g25 hps17.1 hps9.2.2.2 hps9.2.1 p2 | omega) (by first | exact b7.1 | omega) (by first | exact oq_e4757433 ws54_16 b51.1 | omega) (fun h9 => absurd rfl h9), by first | exact hps54.2.1 | omega, by first | exact hps54.2.2.1 | omega, hRD⟩⟩
  ·
    refine z_aload_n X (x := A 19) (show cdA 78 19 = some (.aload_n 0, 1, 0, 0, 0) from rfl) (List.Mem.head _) ?_
    refine s_getR X 19 (show cdA 78 20 = some (.getfield 31, 3, 7, 0, 0) from rfl) (by decide) rfl rfl ?_
    refine z_const X (show cdA 78 23 = some (.iconst 1, 1, 0, 0, 0) from rfl) ?_
    refine z_callV X 1 (rm := rmN 132) (As := [.int (Int32.ofInt 1)]) (st := []) (show cdA 78 24 = some (.invokevirtual 82, 3, 132, 0, 0) from rfl) rfl (by decide) rfl (by rw [E.1, E.2.1, E.2.2.1]; exact c10_refuse3 G Is9 (by first | exact ⟨by decide, by decide⟩ | omega)) ⟨by rw [E.2.2.2]; exact (show 7 + 1 ≤ (12 + (4 * (r + 1))) from oq_e86a2d6a r), by rw [E.2.2.2]; exact (show 8 + (2 + 11) + 122 ≤ (500 + 45 * (4 * (r + 1))) from oq_8aa95fcd r), by rw [E.2.2.2]; exact Nat.le_refl 0, by rw [E.2.2.2]; exact Nat.le_refl 0⟩ (Nat.le_of_ble_eq_true rfl) (fun vv s67 hq => ?_) (fun ee s67 hq => ?_)
    rotate_left
    · obtain ⟨Is67, Fs67, e68, hv, hrs67, hps67⟩ := hq; cases hv
    obtain ⟨Is67, Fs67, e68, hv, hrs67, hps67⟩ := hq
    cases hv
    have Gs67 := fm_ts Gs9 Fs67 (by decide) (by decide)
    have JBYW_s67 : BYW B N s67 := BYW_fm Fs67 (by decide) JBYW_s9
    have JTKS_s67 : TKS B N s67 := TKS_fm Fs67 (by decide) JTKS_s9
    have ws67_2 : iI s67 2 = iI s9 2 := fm_i Fs67 (by decide)
    have ws67_1 : iI s67 1 = iI s9 1 := fm_i Fs67 (by decide)
    have ws67_4 : iI s67 4 = iI s9 4 := fm_i Fs67 (by decide)
    have ws67_5 : iI s67 5 = iI s9 5 := fm_i Fs67 (by decide)
    have ws67_6 : iI s67 6 = iI s9 6 := fm_i Fs67 (by decide)
    have ws67_19 : iI s67 19 = iI s9 19 := fm_i Fs67 (by decide)
    have ws67_16 : iI s67 16 = iI s9 16 := fm_i Fs67 (by decide)
    have b69 : (0 : Int) ≤ iI s67 7 ∧ iI s67 7 ≤ 9 := Is67.1 7
    have dls67 : DL s67 = DL s := (DL_fm Fs67 (by decide) (by decide)).trans dls9
    show WS k 27 [(0, .ref (A 19)), (1, .int (Int32.ofInt x))] [.int (Int32.ofInt e68)] (Wd A dT s67) 0 0
    have hRD : RDc B N 0 (iI s 4) (iI s 19) (DL s) s67 e68 := by rw [show e68 = 0 by omega]; exact rd_no (pu_t1 hnd hnc hwl (hc1.2 (by omega))) (by decide) (by omega)
    exact w_iret X.1 q hRt (nar_ret (by first | exact Or.inl (hps67.1) | omega)) (ax_d X (show cdA 78 27 = some (.ireturn, 1, 0, 0, 0) from rfl)) (Nat.zero_le _) (Nat.zero_le _) ⟨_, rfl, Is67, Gs67, JBYW_s67, JTKS_s67, e68, rfl, hrs67, ⟨rd_post hRD rfl (by omega) (by first | exact b7.1 | omega) (by first | exact oq_0f93fca7 ws67_16 ws9_16 b7.1 | omega) (fun h9 => by first | exact oq_1aa5be9e ws67_19 ws9_19 | omega), by first | exact oq_e7b9ecab ws67_1 ws67_2 hps9.1 | omega, by first | exact oq_e7b9ecab ws67_2 ws67_4 hps9.2.1 | omega, hRD⟩⟩
set_option maxRecDepth 4000 in
theorem c7_unit03 (G : GX l s0 D tys a0 dT) {B : Nat → Int} {N : Int} (SF : SF0 s0) (GT : TXw0 s0) (hT : ∀ {s : PS} {x : Int}, Bd s → BYW B N s → TKS B N s → ((x = -13 ∧ whV B N (iI s 4) = 6476969) ∨ (x = -14 ∧ whV B N (iI s 4) = 267347)) → (iI s 2 ≤ iI s 1) → (iI s 4 ≤ iI s 2) → (6 - iI s 19 ≤ ((0 : Nat) : Int)) → (iI s 16 ≤ iI s 4) → CT l s0 D A dT 78 (rkR (4 * (0))) [.ref (A 19), .int (Int32.ofInt x)] s (fun o t => Bd t ∧ Fm [2, 4, 6, 5, 7, 8, 19, 16] [18] s t ∧ BYW B N t ∧ TKS B N t ∧ ∃ e, o = .inl (some (.int (Int32.ofInt e))) ∧ rng e ∧ ((e = 0 ∨ (e = 1 ∧ iI t 19 = iI s 19 ∧ iI s 4 ≤ iI t 4 ∧ iI t 4 ≤ N ∧ iI t 16 + iI s 4 ≤ iI s 16 + iI t 4)) ∧ iI t 2 ≤ iI t 1 ∧ iI t 4 ≤ iI t 2 ∧ RDc B N 0 (iI s 4) (iI s 19) (DL s) t e))) (I : Bd s) (jBYW : BYW B N s) (jTKS : TKS B N s) (p0 : iI s 2 ≤ iI s 1) (p1 : iI s 4 ≤ iI s 2) (p2 : 6 - iI s 19 ≤ ((0 : Nat) : Int)) (p3 : iI s 16 ≤ iI s 4) : CT l s0 D A dT 77 (rkR (4 * (0) + 1)) [.ref (A 19)] s (fun o t => Bd t ∧ Fm [2, 4, 6, 5, 7, 8, 19, 16] [18] s t ∧ BYW B N t ∧ TKS B N t ∧ ∃ e, o = .inl (some (.int (Int32.ofInt e))) ∧ rng e ∧ ((e = 0 ∨ (e = 1 ∧ iI t 19 = iI s 19 ∧ iI s 4 ≤ iI t 4 ∧ iI t 4 ≤ N ∧ iI t 16 + iI s 4 ≤ iI s 16 + iI t 4)) ∧ iI t 2 ≤ iI t 1 ∧ iI t 4 ≤ iI t 2 ∧ RDc B N 0 (iI s 4) (iI s 19) (DL s) t e)) := by
  refine ct_ofX G (by decide) (Nat.le_of_ble_eq_true rfl) (fun k X E ET hRt hXt q => ?_)
  show WS k 0 [(0, .ref (A 19))] [] _ 0 0
  have F : Fm [2, 4, 6, 5, 7, 8, 19, 16] [18] s s := fm_rf _ _ s
  have hN := jBYW.2.1
  have hW := jBYW.2.2
  have hdg := tkw_dg jTKS
  have hwd := tkw_wd jTKS
  have hc0 := tkw_ch (x := 40) jTKS (by decide) (by decide) (by decide)
  have b1 : (0 : Int) ≤ iI s 2 ∧ iI s 2 ≤ 200 := I.1 2
  have b2 : (0 : Int) ≤ iI s 1 ∧ iI s 1 ≤ 200 := I.1 1
  have b3 : (0 : Int) ≤ iI s 4 ∧ iI s 4 ≤ 200 := I.1 4
  have b4 : ((-3) : Int) ≤ iI s 5 ∧ iI s 5 ≤ 255 := I.1 5
  have b5 : (0 : Int) ≤ iI s 6 ∧ iI s 6 ≤ 100000 := I.1 6
  have b6 : (0 : Int) ≤ iI s 19 ∧ iI s 19 ≤ 6 := I.1 19
  have b7 : (0 : Int) ≤ iI s 16 ∧ iI s 16 ≤ 200 := I.1 16
  have b8 : (0 : Int) ≤ iI s 7 ∧ iI s 7 ≤ 9 := I.1 7
  refine z_aload_n X (x := A 19) (show cdA 77 0 = some (.aload_n 0, 1, 0, 0, 0) from rfl) (List.Mem.head _) ?_
  refine s_getR X 19 (show cdA 77 1 = some (.getfield 31, 3, 7, 0, 0) from rfl) (by decide) rfl rfl ?_
  refine z_getI X 1 (show cdA 77 4 = some (.getfield 47, 3, 10, 6, 0) from rfl) (by decide) rfl rfl ?_
  have b9 : ((-3) : Int) ≤ iI s 5 ∧ iI s 5 ≤ 255 := I.1 5
  refine z_bipush X (show cdA 77 7 = some (.bipush (-2), 2, 0, 0, (-2)) from rfl) ?_
  refine z_icmp_ne X (t := 54) (show cdA 77 9 = some (.if_icmp .ne 45, 3, 1, 0, 0) from rfl) (by decide) (rng_to _) (by decide) (fun g10 => ?_) (fun g10 => ?_)
  ·
    refine z_aload_n X (x := A 19) (show cdA 77 54 = some (.aload_n 0, 1, 0, 0, 0) from rfl) (List.Mem.head _) ?_
    refine s_getR X 19 (show cdA 77 55 = some (.getfield 31, 3, 7, 0, 0) from rfl) (by decide) rfl rfl ?_
    refine z_getI X 1 (show cdA 77 58 = some (.getfield 47, 3, 10, 6, 0) from rfl) (by decide) rfl rfl ?_
    have b11 : ((-3) : Int) ≤ iI s 5 ∧ iI s 5 ≤ 255 := I.1 5
    refine z_bipush X (show cdA 77 61 = some (.bipush 40, 2, 0, 0, 40) from rfl) ?_
    refine z_icmp_ne X (t := 103) (show cdA 77 63 = some (.if_icmp .ne 40, 3, 1, 0, 0) from rfl) (by decide) (rng_to _) (by decide) (fun g12 => ?_) (fun g12 => ?_)
    ·
      refine z_aload_n X (x := A 19) (show cdA 77 103 = some (.aload_n 0, 1, 0, 0, 0) from rfl) (List.Mem.head _) ?_
      refine s_getR X 19 (show cdA 77 104 = some (.getfield 31, 3, 7, 0, 0) from rfl) (by decide) rfl rfl ?_
      obtain ⟨tx125, q125, hR125, hS125⟩ := GT (125, [108, 101, 97, 115, 116]) (by decide)
      refine w_ldcK X (show vk_R (kOwn k) 125 tx125 q125 (kS0 k) by rw [E.2.1, X.2.1.2.1]; exact hR125) (show decode (kCc k) 107 = .ok (.ldc 125, 2) by rw [X.2.1.1]; decide +kernel) ?_
      refine z_callV X 1 (rm := rmN 131) (As := [.ref q125]) (st := []) (show cdA 77 109 = some (.invokevirtual 76, 3, 131, 0, 0) from rfl) rfl (by decide) rfl (by rw [E.1, E.2.1, E.2.2.1]; exact c10_says3 G SF hS125 (by decide) I jBYW jTKS (by first | exact p1 | omega)) ⟨by rw [E.2.2.2]; exact (show 11 + 1 ≤ (12 + (4 * (0) + 1)) from oq_598d2d56), by rw [E.2.2.2]; exact (show 8 + (3 + 11) + 206 ≤ (500 + 45 * (4 * (0) + 1)) from oq_8d6a3487), by rw [E.2.2.2]; exact Nat.le_refl 0, by rw [E.2.2.2]; exact Nat.le_refl 0⟩ (Nat.le_of_ble_eq_true rfl) (fun vv s13 hq => ?_) (fun ee s13 hq => ?_)
      rotate_left
      · obtain ⟨Is13, Fs13, JBYW_s13, JTKS_s13, e14, hv, hrs13, hps13⟩ := hq; cases hv
      obtain ⟨Is13, Fs13, JBYW_s13, JTKS_s13, e14, hv, hrs13, hps13⟩ := hq
      cases hv
      have Gs13 := fm_ts F Fs13 (by decide) (by decide)
      have JBYW_s13 : BYW B N s13 := BYW_fm Fs13 (by decide) jBYW
      have JTKS_s13 : TKS B N s13 := TKS_fm Fs13 (by decide) jTKS
      have ws13_2 : iI s13 2 = iI s 2 := fm_i Fs13 (by decide)
      have ws13_1 : iI s13 1 = iI s 1 := fm_i Fs13 (by decide)
      have ws13_4 : iI s13 4 = iI s 4 := fm_i Fs13 (by decide)
      have ws13_5 : iI s13 5 = iI s 5 := fm_i Fs13 (by decide)
      have ws13_6 : iI s13 6 = iI s 6 := fm_i Fs13 (by decide)
      have ws13_19 : iI s13 19 = iI s 19 := fm_i Fs13 (by decide)
      have ws13_16 : iI s13 16 = iI s 16 := fm_i Fs13 (by decide)
      have ws13_7 : iI s13 7 = iI s 7 := fm_i Fs13 (by decide)
      have dls13 : DL s13 = DL s := (DL_fm Fs13 (by decide) (by decide)).trans rfl
      have hws13 : (e14 = 1 ∧ whV B N (iI s 4) = 6476969) ∨ (e14 = 0 ∧ whV B N (iI s 4) ≠ 6476969) := by have h := hps13; rw [show iI s 4 = iI s 4 by omega, show whL [108, 101, 97, 115, 116] 0 = 6476969 by decide] at h; exact h
      show WS k 112 [(0, .ref (A 19))] [.int (Int32.ofInt e14)] (Wd A dT s13) 0 0
      refine z_if_ne X (t := 127) (show cdA 77 112 = some (.ifCond .ne 15, 3, 1, 0, 0) from rfl) (by decide) hrs13 (fun g15 => ?_) (fun g15 => ?_)
      ·
        refine z_aload_n X (x := A 19) (show cdA 77 127 = some (.aload_n 0, 1, 0, 0, 0) from rfl) (List.Mem.head _) ?_
        refine z_aload_n X (x := A 19) (show cdA 77 128 = some (.aload_n 0, 1, 0, 0, 0) from rfl) (List.Mem.head _) ?_
        refine s_getR X 19 (show cdA 77 129 = some (.getfield 31, 3, 7, 0, 0) from rfl) (by decide) rfl rfl ?_
        obtain ⟨tx125, q125, hR125, hS125⟩ := GT (125, [108, 101, 97, 115, 116]) (by decide)
        refine w_ldcK X (show vk_R (kOwn k) 125 tx125 q125 (kS0 k) by rw [E.2.1, X.2.1.2.1]; exact hR125) (show decode (kCc k) 132 = .ok (.ldc 125, 2) by rw [X.2.1.1]; decide +kernel) ?_
        refine z_callV X 1 (rm := rmN 131) (As := [.ref q125]) (st := [.ref (A 19)]) (show cdA 77 134 = some (.invokevirtual 76, 3, 131, 0, 0) from rfl) rfl (by decide) rfl (by rw [E.1, E.2.1, E.2.2.1]; exact c10_says3 G SF hS125 (by decide) Is13 JBYW_s13 JTKS_s13 (by first | exact oq_e7b9ecab ws13_2 ws13_4 p1 | omega)) ⟨by rw [E.2.2.2]; exact (show 11 + 1 ≤ (12 + (4 * (0) + 1)) from oq_598d2d56), by rw [E.2.2.2]; exact (show 8 + (3 + 11) + 206 ≤ (500 + 45 * (4 * (0) + 1)) from oq_8d6a3487), by rw [E.2.2.2]; exact Nat.le_refl 0, by rw [E.2.2.2]; exact Nat.le_refl 0⟩ (Nat.le_of_ble_eq_true rfl) (fun vv s16 hq => ?_) (fun ee s16 hq => ?_)
        rotate_left
        · obtain ⟨Is16, Fs16, JBYW_s16, JTKS_s16, e17, hv, hrs16, hps16⟩ := hq; cases hv
        obtain ⟨Is16, Fs16, JBYW_s16, JTKS_s16, e17, hv, hrs16, hps16⟩ := hq
        cases hv
        have Gs16 := fm_ts Gs13 Fs16 (by decide) (by decide)
        have JBYW_s16 : BYW B N s16 := BYW_fm Fs16 (by decide) JBYW_s13
        have JTKS_s16 : TKS B N s16 := TKS_fm Fs16 (by decide) JTKS_s13
        have ws16_2 : iI s16 2 = iI s13 2 := fm_i Fs16 (by decide)
        have ws16_1 : iI s16 1 = iI s13 1 := fm_i Fs16 (by decide)
        have ws16_4 : iI s16 4 = iI s13 4 := fm_i Fs16 (by decide)
        have ws16_5 : iI s16 5 = iI s13 5 := fm_i Fs16 (by decide)
        have ws16_6 : iI s16 6 = iI s13 6 := fm_i Fs16 (by decide)
        have ws16_19 : iI s16 19 = iI s13 19 := fm_i Fs16 (by decide)
        have ws16_16 : iI s16 16 = iI s13 16 := fm_i Fs16 (by decide)
        have ws16_7 : iI s16 7 = iI s13 7 := fm_i Fs16 (by decide)
        have dls16 : DL s16 = DL s := (DL_fm Fs16 (by decide) (by decide)).trans dls13
        have hws16 : (e17 = 1 ∧ whV B N (iI s 4) = 6476969) ∨ (e17 = 0 ∧ whV B N (iI s 4) ≠ 6476969) := by have h := hps16; rw [show iI s13 4 = iI s 4 by omega, show whL [108, 101, 97, 115, 116] 0 = 6476969 by decide] at h; exact h
        show WS k 137 [(0, .ref (A 19))] [.int (Int32.ofInt e17), .ref (A 19)] (Wd A dT s16) 0 0
        refine z_if_eq X (t := 145) (show cdA 77 137 = some (.ifCond .eq 8, 3, 0, 0, 0) from rfl) (by decide) hrs16 (fun g18 => ?_) (fun g18 => ?_)
        ·
          refine z_bipush X (show cdA 77 145 = some (.bipush (-14), 2, 0, 0, (-14)) from rfl) ?_
          have hx9 : whV B N (iI s16 4) = whV B N (iI s 4) := by rw [show iI s16 4 = iI s 4 by omega]
          refine z_callV X 19 (rm := (rkR (4 * (0)))) (As := [.int (Int32.ofInt (-14))]) (st := []) (show cdA 77 147 = some (.invokevirtual 129, 3, 78, 0, 0) from rfl) rfl (by decide) rfl (by rw [E.1, E.2.1, E.2.2.1]; exact hT Is16 JBYW_s16 JTKS_s16 (by first | exact oq_9dd6f593 g18 hws16 g15 hws13 | omega) (by first | exact oq_4407eb3c ws16_1 ws16_2 ws13_1 ws13_2 p0 | omega) (by first | exact oq_4407eb3c ws16_2 ws16_4 ws13_2 ws13_4 p1 | omega) (by first | exact oq_064f000d ws16_19 ws13_19 p2 | omega) (by first | exact oq_4407eb3c ws16_4 ws16_16 ws13_4 ws13_16 p3 | omega)) ⟨by rw [E.2.2.2]; exact (show (12 + (4 * (0))) + 1 ≤ (12 + (4 * (0) + 1)) from oq_46bc030d), by rw [E.2.2.2]; exact (show 8 + (2 + 11) + (500 + 45 * (4 * (0))) ≤ (500 + 45 * (4 * (0) + 1)) from oq_1283f125), by rw [E.2.2.2]; exact Nat.le_refl 0, by rw [E.2.2.2]; exact Nat.le_refl 0⟩ (Nat.le_of_ble_eq_true rfl) (fun vv s19 hq => ?_) (fun ee s19 hq => ?_)
          rotate_left
          · obtain ⟨Is19, Fs19, JBYW_s19, JTKS_s19, e20, hv, hrs19, hps19⟩ := hq; cases hv
          obtain ⟨Is19, Fs19, JBYW_s19, JTKS_s19, e20, hv, hrs19, hps19⟩ := hq
          cases hv
          have Gs19 := fm_ts Gs16 Fs19 (by decide) (by decide)
          have JBYW_s19 : BYW B N s19 := BYW_fm Fs19 (by decide) JBYW_s16
          have b21 : (0 : Int) ≤ iI s19 2 ∧ iI s19 2 ≤ 200 := Is19.1 2
          have ws19_1 : iI s19 1 = iI s16 1 := fm_i Fs19 (by decide)
          have b22 : (0 : Int) ≤ iI s19 4 ∧ iI s19 4 ≤ 200 := Is19.1 4
          have b23 : ((-3) : Int) ≤ iI s19 5 ∧ iI s19 5 ≤ 255 := Is19.1 5
          have b24 : (0 : Int) ≤ iI s19 6 ∧ iI s19 6 ≤ 100000 := Is19.1 6
          have b25 : (0 : Int) ≤ iI s19 19 ∧ iI s19 19 ≤ 6 := Is19.1 19
          have b26 : (0 : Int) ≤ iI s19 16 ∧ iI s19 16 ≤ 200 := Is19.1 16
          have b27 : (0 : Int) ≤ iI s19 7 ∧ iI s19 7 ≤ 9 := Is19.1 7
          show WS k 150 [(0, .ref (A 19))] [.int (Int32.ofInt e20)] (Wd A dT s19) 0 0
          have hRD : RDc B N 0 (iI s 4) (iI s 19) (DL s) s19 e20 := by have h := hps19.2.2.2; rw [show iI s16 4 = iI s 4 by omega, show iI s16 19 = iI s 19 by omega, dls16] at h; exact h
          exact w_iret X.1 q hRt (nar_ret (by first | exact oq_a0a77773 hps19.1 | omega)) (ax_d X (show cdA 77 150 = some (.ireturn, 1, 0, 0, 0) from rfl)) (Nat.zero_le _) (Nat.zero_le _) ⟨_, rfl, Is19, Gs19, JBYW_s19, JTKS_s19, e20, rfl, hrs19, ⟨rd_post hRD rfl (by first | exact oq_82452333 g18 hws16 g15 hws13 | omega) (by first | exact b7.1 | omega) (by first | exact b26.1 | omega) (fun h9 => by first | exact oq_6c3824d5 g18 hws16 g15 hws13 | omega), by first | exact hps19.2.1 | omega, by first | exact hps19.2.2.1 | omega, hRD⟩⟩
        ·
          refine z_bipush X (show cdA 77 140 = some (.bipush (-13), 2, 0, 0, (-13)) from rfl) ?_
          refine z_goto X (t := 147) (show cdA 77 142 = some (.goto 5, 3, 0, 0, 0) from rfl) (by decide) ?_
          have hx9 : whV B N (iI s16 4) = whV B N (iI s 4) := by rw [show iI s16 4 = iI s 4 by omega]
          refine z_callV X 19 (rm := (rkR (4 * (0)))) (As := [.int (Int32.ofInt (-13))]) (st := []) (show cdA 77 147 = some (.invokevirtual 129, 3, 78, 0, 0) from rfl) rfl (by decide) rfl (by rw [E.1, E.2.1, E.2.2.1]; exact hT Is16 JBYW_s16 JTKS_s16 (by first | exact oq_477ae4c3 hx9 g18 hws16 | omega) (by first | exact oq_4407eb3c ws16_1 ws16_2 ws13_1 ws13_2 p0 | omega) (by first | exact oq_4407eb3c ws16_2 ws16_4 ws13_2 ws13_4 p1 | omega) (by first | exact oq_064f000d ws16_19 ws13_19 p2 | omega) (by first | exact oq_4407eb3c ws16_4 ws16_16 ws13_4 ws13_16 p3 | omega)) ⟨by rw [E.2.2.2]; exact (show (12 + (4 * (0))) + 1 ≤ (12 + (4 * (0) + 1)) from oq_46bc030d), by rw [E.2.2.2]; exact (show 8 + (2 + 11) + (500 + 45 * (4 * (0))) ≤ (500 + 45 * (4 * (0) + 1)) from oq_1283f125), by rw [E.2.2.2]; exact Nat.le_refl 0, by rw [E.2.2.2]; exact Nat.le_refl 0⟩ (Nat.le_of_ble_eq_true rfl) (fun vv s28 hq => ?_) (fun ee s28 hq => ?_)
          rotate_left
          · obtain ⟨Is28, Fs28, JBYW_s28, JTKS_s28, e29, hv, hrs28, hps28⟩ := hq; cases hv
          obtain ⟨Is28, Fs28, JBYW_s28, JTKS_s28, e29, hv, hrs28, hps28⟩ := hq
          cases hv
          have Gs28 := fm_ts Gs16 Fs28 (by decide) (by decide)
          have JBYW_s28 : BYW B N s28 := BYW_fm Fs28 (by decide) JBYW_s16
          have b30 : (0 : Int) ≤ iI s28 2 ∧ iI s28 2 ≤ 200 := Is28.1 2
          have ws28_1 : iI s28 1 = iI s16 1 := fm_i Fs28 (by decide)
          have b31 : (0 : Int) ≤ iI s28 4 ∧ iI s28 4 ≤ 200 := Is28.1 4
          have b32 : ((-3) : Int) ≤ iI s28 5 ∧ iI s28 5 ≤ 255 := Is28.1 5
          have b33 : (0 : Int) ≤ iI s28 6 ∧ iI s28 6 ≤ 100000 := Is28.1 6
          have b34 : (0 : Int) ≤ iI s28 19 ∧ iI s28 19 ≤ 6 := Is28.1 19
          have b35 : (0 : Int) ≤ iI s28 16 ∧ iI s28 16 ≤ 200 := Is28.1 16
          have b36 : (0 : Int) ≤ iI s28 7 ∧ iI s28 7 ≤ 9 := Is28.1 7
          show WS k 150 [(0, .ref (A 19))] [.int (Int32.ofInt e29)] (Wd A dT s28) 0 0
          have hRD : RDc B N 0 (iI s 4) (iI s 19) (DL s) s28 e29 := by have h := hps28.2.2.2; rw [show iI s16 4 = iI s 4 by omega, show iI s16 19 = iI s 19 by omega, dls16] at h; exact h
          exact w_iret X.1 q hRt (nar_ret (by first | exact oq_a0a77773 hps28.1 | omega)) (ax_d X (show cdA 77 150 = some (.ireturn, 1, 0, 0, 0) from rfl)) (Nat.zero_le _) (Nat.zero_le _) ⟨_, rfl, Is28, Gs28, JBYW_s28, JTKS_s28, e29, rfl, hrs28, ⟨rd_post hRD rfl (by omega) (by first | exact b7.1 | omega) (by first | exact b35.1 | omega) (fun h9 => by omega), by first | exact hps28.2.1 | omega, by first | exact hps28.2.2.1 | omega, hRD⟩⟩
      ·
        refine z_aload_n X (x := A 19) (show cdA 77 115 = some (.aload_n 0, 1, 0, 0, 0) from rfl) (List.Mem.head _) ?_
        refine s_getR X 19 (show cdA 77 116 = some (.getfield 31, 3, 7, 0, 0) from rfl) (by decide) rfl rfl ?_
        obtain ⟨tx127, q127, hR127, hS127⟩ := GT (127, [109, 111, 115, 116]) (by decide)
        refine w_ldcK X (show vk_R (kOwn k) 127 tx127 q127 (kS0 k) by rw [E.2.1, X.2.1.2.1]; exact hR127) (show decode (kCc k) 119 = .ok (.ldc 127, 2) by rw [X.2.1.1]; decide +kernel) ?_
        refine z_callV X 1 (rm := rmN 131) (As := [.ref q127]) (st := []) (show cdA 77 121 = some (.invokevirtual 76, 3, 131, 0, 0) from rfl) rfl (by decide) rfl (by rw [E.1, E.2.1, E.2.2.1]; exact c10_says3 G SF hS127 (by decide) Is13 JBYW_s13 JTKS_s13 (by first | exact oq_e7b9ecab ws13_2 ws13_4 p1 | omega)) ⟨by rw [E.2.2.2]; exact (show 11 + 1 ≤ (12 + (4 * (0) + 1)) from oq_598d2d56), by rw [E.2.2.2]; exact (show 8 + (3 + 11) + 206 ≤ (500 + 45 * (4 * (0) + 1)) from oq_8d6a3487), by rw [E.2.2.2]; exact Nat.le_refl 0, by rw [E.2.2.2]; exact Nat.le_refl 0⟩ (Nat.le_of_ble_eq_true rfl) (fun vv s37 hq => ?_) (fun ee s37 hq => ?_)
        rotate_left
        · obtain ⟨Is37, Fs37, JBYW_s37, JTKS_s37, e38, hv, hrs37, hps37⟩ := hq; cases hv
        obtain ⟨Is37, Fs37, JBYW_s37, JTKS_s37, e38, hv, hrs37, hps37⟩ := hq
        cases hv
        have Gs37 := fm_ts Gs13 Fs37 (by decide) (by decide)
        have JBYW_s37 : BYW B N s37 := BYW_fm Fs37 (by decide) JBYW_s13
        have JTKS_s37 : TKS B N s37 := TKS_fm Fs37 (by decide) JTKS_s13
        have ws37_2 : iI s37 2 = iI s13 2 := fm_i Fs37 (by decide)
        have ws37_1 : iI s37 1 = iI s13 1 := fm_i Fs37 (by decide)
        have ws37_4 : iI s37 4 = iI s13 4 := fm_i Fs37 (by decide)
        have ws37_5 : iI s37 5 = iI s13 5 := fm_i Fs37 (by decide)
        have ws37_6 : iI s37 6 = iI s13 6 := fm_i Fs37 (by decide)
        have ws37_19 : iI s37 19 = iI s13 19 := fm_i Fs37 (by decide)
        have ws37_16 : iI s37 16 = iI s13 16 := fm_i Fs37 (by decide)
        have ws37_7 : iI s37 7 = iI s13 7 := fm_i Fs37 (by decide)
        have dls37 : DL s37 = DL s := (DL_fm Fs37 (by decide) (by decide)).trans dls13
        have hws37 : (e38 = 1 ∧ whV B N (iI s 4) = 267347) ∨ (e38 = 0 ∧ whV B N (iI s 4) ≠ 267347) := by have h := hps37; rw [show iI s13 4 = iI s 4 by omega, show whL [109, 111, 115, 116] 0 = 267347 by decide] at h; exact h
        show WS k 124 [(0, .ref (A 19))] [.int (Int32.ofInt e38)] (Wd A dT s37) 0 0
        refine z_if_eq X (t := 151) (show cdA 77 124 = some (.ifCond .eq 27, 3, 0, 0, 0) from rfl) (by decide) hrs37 (fun g39 => ?_) (fun g39 => ?_)
        ·
          refine z_aload_n X (x := A 19) (show cdA 77 151 = some (.aload_n 0, 1, 0, 0, 0) from rfl) (List.Mem.head _) ?_
          refine z_callV X 19 (rm := rmN 79) (As := []) (st := []) (show cdA 77 152 = some (.invokevirtual 132, 3, 79, 0, 0) from rfl) rfl (by decide) rfl (by rw [E.1, E.2.1, E.2.2.1]; exact c7_codeOfName3 G SF GT Is37 JBYW_s37 JTKS_s37 (by first | exact oq_4407eb3c ws37_1 ws37_2 ws13_1 ws13_2 p0 | omega) (by first | exact oq_4407eb3c ws37_2 ws37_4 ws13_2 ws13_4 p1 | omega)) ⟨by rw [E.2.2.2]; exact (show 12 + 1 ≤ (12 + (4 * (0) + 1)) from oq_0306f201), by rw [E.2.2.2]; exact (show 8 + (1 + 11) + 228 ≤ (500 + 45 * (4 * (0) + 1)) from oq_d926b11d), by rw [E.2.2.2]; exact Nat.le_refl 0, by rw [E.2.2.2]; exact Nat.le_refl 0⟩ (Nat.le_of_ble_eq_true rfl) (fun vv s40 hq => ?_) (fun ee s40 hq => ?_)
          rotate_left
          · obtain ⟨Is40, Fs40, JBYW_s40, JTKS_s40, e41, hv, hrs40, hps40⟩ := hq; cases hv
          obtain ⟨Is40, Fs40, JBYW_s40, JTKS_s40, e41, hv, hrs40, hps40⟩ := hq
          cases hv
          have Gs40 := fm_ts Gs37 Fs40 (by decide) (by decide)
          have JBYW_s40 : BYW B N s40 := BYW_fm Fs40 (by decide) JBYW_s37
          have JTKS_s40 : TKS B N s40 := TKS_fm Fs40 (by decide) JTKS_s37
          have ws40_2 : iI s40 2 = iI s37 2 := fm_i Fs40 (by decide)
          have ws40_1 : iI s40 1 = iI s37 1 := fm_i Fs40 (by decide)
          have ws40_4 : iI s40 4 = iI s37 4 := fm_i Fs40 (by decide)
          have ws40_5 : iI s40 5 = iI s37 5 := fm_i Fs40 (by decide)
          have ws40_6 : iI s40 6 = iI s37 6 := fm_i Fs40 (by decide)
          have ws40_19 : iI s40 19 = iI s37 19 := fm_i Fs40 (by decide)
          have ws40_16 : iI s40 16 = iI s37 16 := fm_i Fs40 (by decide)
          have ws40_7 : iI s40 7 = iI s37 7 := fm_i Fs40 (by decide)
          have dls40 : DL s40 = DL s := (DL_fm Fs40 (by decide) (by decide)).trans dls37
          show WS k 155 [(0, .ref (A 19))] [.int (Int32.ofInt e41)] (Wd A dT s40) 0 0
          have hcn : (e41 = -20 ∧ nmC B N (iI s 4) = 0) ∨ (-7 ≤ e41 ∧ e41 ≤ -1 ∧ nmC B N (iI s 4) = e41) := by have h := hps40; rw [show iI s37 4 = (iI s 4) by omega] at h; exact h
          refine z_store_n X (lv' := [(1, .int (Int32.ofInt e41)), (0, .ref (A 19))]) (show cdA 77 155 = some (.istore_n 1, 1, 0, 0, 0) from rfl) (by decide) (fun _ h => h) ?_
          refine z_load_n X (x := e41) (show cdA 77 156 = some (.iload_n 1, 1, 0, 0, 0) from rfl) (List.Mem.head _) ?_
          refine z_bipush X (show cdA 77 157 = some (.bipush (-20), 2, 0, 0, (-20)) from rfl) ?_
          refine z_icmp_ne X (t := 171) (show cdA 77 159 = some (.if_icmp .ne 12, 3, 1, 0, 0) from rfl) (by decide) hrs40 (by decide) (fun g42 => ?_) (fun g42 => ?_)
          ·
            refine z_aload_n X (x := A 19) (show cdA 77 171 = some (.aload_n 0, 1, 0, 0, 0) from rfl) (List.Mem.tail _ (List.Mem.head _)) ?_
            refine z_load_n X (x := e41) (show cdA 77 172 = some (.iload_n 1, 1, 0, 0, 0) from rfl) (List.Mem.head _) ?_
            have hwn := wh_let (nm_wh (show nmC B N (iI s 4) ≠ 0 by omega)).1
            have hk3 : iI s 5 = -3 := Classical.byContradiction (fun q => (nm_wh (show nmC B N (iI s 4) ≠ 0 by omega)).1 (hwd.2 q))
            have ha3 := (hwd.1 hk3).1
            refine z_callV X 19 (rm := rmN 82) (As := [.int (Int32.ofInt e41)]) (st := []) (show cdA 77 173 = some (.invokevirtual 103, 3, 82, 0, 0) from rfl) rfl (by decide) rfl (by rw [E.1, E.2.1, E.2.2.1]; exact c7_put3 G Is40 (by first | exact ⟨oq_2da1d2e6 hcn, oq_ff24c752 hcn⟩ | omega) (by omega)) ⟨by rw [E.2.2.2]; exact (show 6 + 1 ≤ (12 + (4 * (0) + 1)) from oq_57ddffaa), by rw [E.2.2.2]; exact (show 8 + (2 + 11) + 100 ≤ (500 + 45 * (4 * (0) + 1)) from oq_9971bdcd), by rw [E.2.2.2]; exact Nat.le_refl 0, by rw [E.2.2.2]; exact Nat.le_refl 0⟩ (Nat.le_of_ble_eq_true rfl) (fun vv s43 hq => ?_) (fun ee s43 hq => ?_)
            rotate_left
            · obtain ⟨Is43, Fs43, hv, hps43⟩ := hq; cases hv
            obtain ⟨Is43, Fs43, hv, hps43⟩ := hq
            cases hv
            have Gs43 := fm_ts Gs40 Fs43 (by decide) (by decide)
            have JBYW_s43 : BYW B N s43 := BYW_fm Fs43 (by decide) JBYW_s40
            have JTKS_s43 : TKS B N s43 := TKS_fm Fs43 (by decide) JTKS_s40
            have ws43_2 : iI s43 2 = iI s40 2 := fm_i Fs43 (by decide)
            have ws43_1 : iI s43 1 = iI s40 1 := fm_i Fs43 (by decide)
            have ws43_4 : iI s43 4 = iI s40 4 := fm_i Fs43 (by decide)
            have ws43_5 : iI s43 5 = iI s40 5 := fm_i Fs43 (by decide)
            have ws43_6 : iI s43 6 = iI s40 6 := fm_i Fs43 (by decide)
            have ws43_19 : iI s43 19 = iI s40 19 := fm_i Fs43 (by decide)
            have b45 : (0 : Int) ≤ iI s43 16 ∧ iI s43 16 ≤ 200 := Is43.1 16
            have ws43_7 : iI s43 7 = iI s40 7 := fm_i Fs43 (by decide)
            have dls43 : DL s43 = DL s ++ [e41] := by rw [hps43.2, dls40]
            show WS k 176 [(1, .int (Int32.ofInt e41)), (0, .ref (A 19))] [] (Wd A dT s43) 0 0
            refine z_aload_n X (x := A 19) (show cdA 77 176 = some (.aload_n 0, 1, 0, 0, 0) from rfl) (List.Mem.tail _ (List.Mem.head _)) ?_
            refine s_getR X 19 (show cdA 77 177 = some (.getfield 31, 3, 7, 0, 0) from rfl) (by decide) rfl rfl ?_
            refine z_callV X 1 (rm := rmN 129) (As := []) (st := []) (show cdA 77 180 = some (.invokevirtual 85, 3, 129, 0, 0) from rfl) rfl (by decide) rfl (by rw [E.1, E.2.1, E.2.2.1]; exact c10_step3 G Is43 JBYW_s43 (by first | exact oq_25674cec ws43_1 ws43_2 ws40_1 ws40_2 ws37_1 ws37_2 ws13_1 ws13_2 p0 | omega)) ⟨by rw [E.2.2.2]; exact (show 7 + 1 ≤ (12 + (4 * (0) + 1)) from oq_547cef8b), by rw [E.2.2.2]; exact (show 8 + (1 + 11) + 121 ≤ (500 + 45 * (4 * (0) + 1)) from oq_0392e5c6), by rw [E.2.2.2]; exact Nat.le_refl 0, by rw [E.2.2.2]; exact Nat.le_refl 0⟩ (Nat.le_of_ble_eq_true rfl) (fun vv s46 hq => ?_) (fun ee s46 hq => ?_)
            rotate_left
            · obtain ⟨Is46, Fs46, JBYW_s46, JTKS_s46, hv, hps46⟩ := hq; cases hv
            obtain ⟨Is46, Fs46, JBYW_s46, JTKS_s46, hv, hps46⟩ := hq
            cases hv
            have Gs46 := fm_ts Gs43 Fs46 (by decide) (by decide)
            have JBYW_s46 : BYW B N s46 := BYW_fm Fs46 (by decide) JBYW_s43
            have b48 : (0 : Int) ≤ iI s46 2 ∧ iI s46 2 ≤ 200 := Is46.1 2
            have ws46_1 : iI s46 1 = iI s43 1 := fm_i Fs46 (by decide)
            have b49 : (0 : Int) ≤ iI s46 4 ∧ iI s46 4 ≤ 200 := Is46.1 4
            have b50 : ((-3) : Int) ≤ iI s46 5 ∧ iI s46 5 ≤ 255 := Is46.1 5
            have b51 : (0 : Int) ≤ iI s46 6 ∧ iI s46 6 ≤ 100000 := Is46.1 6
            have ws46_19 : iI s46 19 = iI s43 19 := fm_i Fs46 (by decide)
            have ws46_16 : iI s46 16 = iI s43 16 := fm_i Fs46 (by decide)
            have ws46_7 : iI s46 7 = iI s43 7 := fm_i Fs46 (by decide)
            have dls46 : DL s46 = DL s ++ [e41] := (DL_fm Fs46 (by decide) (by decide)).trans dls43
            show WS k 183 [(1, .int (Int32.ofInt e41)), (0, .ref (A 19))] [] (Wd A dT s46) 0 0
            refine z_const X (show cdA 77 183 = some (.iconst 1, 1, 0, 0, 0) from rfl) ?_
            have hRD : RDc B N 0 (iI s 4) (iI s 19) (DL s) s46 1 := rd_ok (pu_nam (hdg.2 (by omega)) (hc0.2 (by omega)) (by omega) (by omega)) (by rw [hps46.2.2.1, show iI s43 2 = wdE B N (iI s 4) by omega]) (by rw [dls46, show e41 = nmC B N (iI s 4) by omega])
            exact w_iret X.1 q hRt (nar_ret (by first | exact Or.inr (by decide) | omega)) (ax_d X (show cdA 77 184 = some (.ireturn, 1, 0, 0, 0) from rfl)) (Nat.zero_le _) (Nat.zero_le _) ⟨_, rfl, Is46, Gs46, JBYW_s46, JTKS_s46, 1, rfl, (by decide), ⟨rd_post hRD rfl (by omega) (by first | exact b7.1 | omega) (by first | exact oq_e4757433 ws46_16 b45.1 | omega) (fun h9 => by first | exact oq_469c7eaf ws46_19 ws43_19 ws40_19 ws37_19 ws13_19 | omega), by first | exact hps46.1 | omega, by first | exact hps46.2.1 | omega, hRD⟩⟩
          ·
            refine z_aload_n X (x := A 19) (show cdA 77 162 = some (.aload_n 0, 1, 0, 0, 0) from rfl) (List.Mem.tail _ (List.Mem.head _)) ?_
            refine s_getR X 19 (show cdA 77 163 = some (.getfield 31, 3, 7, 0, 0) from rfl) (by decide) rfl rfl ?_
            refine z_const X (show cdA 77 166 = some (.iconst 1, 1, 0, 0, 0) from rfl) ?_
            refine z_callV X 1 (rm := rmN 132) (As := [.int (Int32.ofInt 1)]) (st := []) (show cdA 77 167 = some (.invokevirtual 82, 3, 132, 0, 0) from rfl) rfl (by decide) rfl (by rw [E.1, E.2.1, E.2.2.1]; exact c10_refuse3 G Is40 (by first | exact ⟨by decide, by decide⟩ | omega)) ⟨by rw [E.2.2.2]; exact (show 7 + 1 ≤ (12 + (4 * (0) + 1)) from oq_547cef8b), by rw [E.2.2.2]; exact (show 8 + (2 + 11) + 122 ≤ (500 + 45 * (4 * (0) + 1)) from oq_06c7c12d), by rw [E.2.2.2]; exact Nat.le_refl 0, by rw [E.2.2.2]; exact Nat.le_refl 0⟩ (Nat.le_of_ble_eq_true rfl) (fun vv s52 hq => ?_) (fun ee s52 hq => ?_)
            rotate_left
            · obtain ⟨Is52, Fs52, e53, hv, hrs52, hps52⟩ := hq; cases hv
            obtain ⟨Is52, Fs52, e53, hv, hrs52, hps52⟩ := hq
            cases hv
            have Gs52 := fm_ts Gs40 Fs52 (by decide) (by decide)
            have JBYW_s52 : BYW B N s52 := BYW_fm Fs52 (by decide) JBYW_s40
            have JTKS_s52 : TKS B N s52 := TKS_fm Fs52 (by decide) JTKS_s40
            have ws52_2 : iI s52 2 = iI s40 2 := fm_i Fs52 (by decide)
            have ws52_1 : iI s52 1 = iI s40 1 := fm_i Fs52 (by decide)
            have ws52_4 : iI s52 4 = iI s40 4 := fm_i Fs52 (by decide)
            have ws52_5 : iI s52 5 = iI s40 5 := fm_i Fs52 (by decide)
            have ws52_6 : iI s52 6 = iI s40 6 := fm_i Fs52 (by decide)
            have ws52_19 : iI s52 19 = iI s40 19 := fm_i Fs52 (by decide)
            have ws52_16 : iI s52 16 = iI s40 16 := fm_i Fs52 (by decide)
            have b54 : (0 : Int) ≤ iI s52 7 ∧ iI s52 7 ≤ 9 := Is52.1 7
            have dls52 : DL s52 = DL s := (DL_fm Fs52 (by decide) (by decide)).trans dls40
            show WS k 170 [(1, .int (Int32.ofInt e41)), (0, .ref (A 19))] [.int (Int32.ofInt e53)] (Wd A dT s52) 0 0
            have hRD : RDc B N 0 (iI s 4) (iI s 19) (DL s) s52 e53 := by rw [show e53 = 0 by omega]; exact rd_no (pu_no (hdg.2 (by omega)) (hc0.2 (by omega)) (by omega) (by omega)) (by decide) (by omega)
            exact w_iret X.1 q hRt (nar_ret (by first | exact Or.inl (hps52.1) | omega)) (ax_d X (show cdA 77 170 = some (.ireturn, 1, 0, 0, 0) from rfl)) (Nat.zero_le _) (Nat.zero_le _) ⟨_, rfl, Is52, Gs52, JBYW_s52, JTKS_s52, e53, rfl, hrs52, ⟨rd_post hRD rfl (by omega) (by first | exact b7.1 | omega) (by first | exact oq_ea8cf281 ws52_16 ws40_16 ws37_16 ws13_16 b7.1 | omega) (fun h9 => by first | exact oq_ac0e91e1 ws52_19 ws40_19 ws37_19 ws13_19 | omega), by first | exact oq_25674cec ws52_1 ws52_2 ws40_1 ws40_2 ws37_1 ws37_2 ws13_1 ws13_2 p0 | omega, by first | exact oq_969cff60 ws52_4 ws52_2 ws40_4 ws40_2 ws37_4 ws37_2 ws13_4 ws13_2 p1 | omega, hRD⟩⟩
        ·
          refine z_aload_n X (x := A 19) (show cdA 77 127 = some (.aload_n 0, 1, 0, 0, 0) from rfl) (List.Mem.head _) ?_
          refine z_aload_n X (x := A 19) (show cdA 77 128 = some (.aload_n 0, 1, 0, 0, 0) from rfl) (List.Mem.head _) ?_
          refine s_getR X 19 (show cdA 77 129 = some (.getfield 31, 3, 7, 0, 0) from rfl) (by decide) rfl rfl ?_
          obtain ⟨tx125, q125, hR125, hS125⟩ := GT (125, [108, 101, 97, 115, 116]) (by decide)
          refine w_ldcK X (show vk_R (kOwn k) 125 tx125 q125 (kS0 k) by rw [E.2.1, X.2.1.2.1]; exact hR125) (show decode (kCc k) 132 = .ok (.ldc 125, 2) by rw [X.2.1.1]; decide +kernel) ?_
          refine z_callV X 1 (rm := rmN 131) (As := [.ref q125]) (st := [.ref (A 19)]) (show cdA 77 134 = some (.invokevirtual 76, 3, 131, 0, 0) from rfl) rfl (by decide) rfl (by rw [E.1, E.2.1, E.2.2.1]; exact c10_says3 G SF hS125 (by decide) Is37 JBYW_s37 JTKS_s37 (by first | exact oq_4407eb3c ws37_2 ws37_4 ws13_2 ws13_4 p1 | omega)) ⟨by rw [E.2.2.2]; exact (show 11 + 1 ≤ (12 + (4 * (0) + 1)) from oq_598d2d56), by rw [E.2.2.2]; exact (show 8 + (3 + 11) + 206 ≤ (500 + 45 * (4 * (0) + 1)) from oq_8d6a3487), by rw [E.2.2.2]; exact Nat.le_refl 0, by rw [E.2.2.2]; exact Nat.le_refl 0⟩ (Nat.le_of_ble_eq_true rfl) (fun vv s55 hq => ?_) (fun ee s55 hq => ?_)
          rotate_left
          · obtain ⟨Is55, Fs55, JBYW_s55, JTKS_s55, e56, hv, hrs55, hps55⟩ := hq; cases hv
          obtain ⟨Is55, Fs55, JBYW_s55, JTKS_s55, e56, hv, hrs55, hps55⟩ := hq
          cases hv
          have Gs55 := fm_ts Gs37 Fs55 (by decide) (by decide)
          have JBYW_s55 : BYW B N s55 := BYW_fm Fs55 (by decide) JBYW_s37
          have JTKS_s55 : TKS B N s55 := TKS_fm Fs55 (by decide) JTKS_s37
          have ws55_2 : iI s55 2 = iI s37 2 := fm_i Fs55 (by decide)
          have ws55_1 : iI s55 1 = iI s37 1 := fm_i Fs55 (by decide)
          have ws55_4 : iI s55 4 = iI s37 4 := fm_i Fs55 (by decide)
          have ws55_5 : iI s55 5 = iI s37 5 := fm_i Fs55 (by decide)
          have ws55_6 : iI s55 6 = iI s37 6 := fm_i Fs55 (by decide)
          have ws55_19 : iI s55 19 = iI s37 19 := fm_i Fs55 (by decide)
          have ws55_16 : iI s55 16 = iI s37 16 := fm_i Fs55 (by decide)
          have ws55_7 : iI s55 7 = iI s37 7 := fm_i Fs55 (by decide)
          have dls55 : DL s55 = DL s := (DL_fm Fs55 (by decide) (by decide)).trans dls37
          have hws55 : (e56 = 1 ∧ whV B N (iI s 4) = 6476969) ∨ (e56 = 0 ∧ whV B N (iI s 4) ≠ 6476969) := by have h := hps55; rw [show iI s37 4 = iI s 4 by omega, show whL [108, 101, 97, 115, 116] 0 = 6476969 by decide] at h; exact h
          show WS k 137 [(0, .ref (A 19))] [.int (Int32.ofInt e56), .ref (A 19)] (Wd A dT s55) 0 0
          refine z_if_eq X (t := 145) (show cdA 77 137 = some (.ifCond .eq 8, 3, 0, 0, 0) from rfl) (by decide) hrs55 (fun g57 => ?_) (fun g57 => ?_)
          ·
            refine z_bipush X (show cdA 77 145 = some (.bipush (-14), 2, 0, 0, (-14)) from rfl) ?_
            have hx9 : whV B N (iI s55 4) = whV B N (iI s 4) := by rw [show iI s55 4 = iI s 4 by omega]
            refine z_callV X 19 (rm := (rkR (4 * (0)))) (As := [.int (Int32.ofInt (-14))]) (st := []) (show cdA 77 147 = some (.invokevirtual 129, 3, 78, 0, 0) from rfl) rfl (by decide) rfl (by rw [E.1, E.2.1, E.2.2.1]; exact hT Is55 JBYW_s55 JTKS_s55 (by first | exact oq_d81af618 hx9 g39 hws37 | omega) (by first | exact oq_72ebe5a4 ws55_1 ws55_2 ws37_1 ws37_2 ws13_1 ws13_2 p0 | omega) (by first | exact oq_7f1a346e ws55_4 ws55_2 ws37_4 ws37_2 ws13_4 ws13_2 p1 | omega) (by first | exact oq_21fef13e ws55_19 ws37_19 ws13_19 p2 | omega) (by first | exact oq_7f1a346e ws55_16 ws55_4 ws37_16 ws37_4 ws13_16 ws13_4 p3 | omega)) ⟨by rw [E.2.2.2]; exact (show (12 + (4 * (0))) + 1 ≤ (12 + (4 * (0) + 1)) from oq_46bc030d), by rw [E.2.2.2]; exact (show 8 + (2 + 11) + (500 + 45 * (4 * (0))) ≤ (500 + 45 * (4 * (0) + 1)) from oq_1283f125), by rw [E.2.2.2]; exact Nat.le_refl 0, by rw [E.2.2.2]; exact Nat.le_refl 0⟩ (Nat.le_of_ble_eq_true rfl) (fun vv s58 hq => ?_) (fun ee s58 hq => ?_)
            rotate_left
            · obtain ⟨Is58, Fs58, JBYW_s58, JTKS_s58, e59, hv, hrs58, hps58⟩ := hq; cases hv
            obtain ⟨Is58, Fs58, JBYW_s58, JTKS_s58, e59, hv, hrs58, hps58⟩ := hq
            cases hv
            have Gs58 := fm_ts Gs55 Fs58 (by decide) (by decide)
            have JBYW_s58 : BYW B N s58 := BYW_fm Fs58 (by decide) JBYW_s55
            have b60 : (0 : Int) ≤ iI s58 2 ∧ iI s58 2 ≤ 200 := Is58.1 2
            have ws58_1 : iI s58 1 = iI s55 1 := fm_i Fs58 (by decide)
            have b61 : (0 : Int) ≤ iI s58 4 ∧ iI s58 4 ≤ 200 := Is58.1 4
            have b62 : ((-3) : Int) ≤ iI s58 5 ∧ iI s58 5 ≤ 255 := Is58.1 5
            have b63 : (0 : Int) ≤ iI s58 6 ∧ iI s58 6 ≤ 100000 := Is58.1 6
            have b64 : (0 : Int) ≤ iI s58 19 ∧ iI s58 19 ≤ 6 := Is58.1 19
            have b65 : (0 : Int) ≤ iI s58 16 ∧ iI s58 16 ≤ 200 := Is58.1 16
            have b66 : (0 : Int) ≤ iI s58 7 ∧ iI s58 7 ≤ 9 := Is58.1 7
            show WS k 150 [(0, .ref (A 19))] [.int (Int32.ofInt e59)] (Wd A dT s58) 0 0
            have hRD : RDc B N 0 (iI s 4) (iI s 19) (DL s) s58 e59 := by have h := hps58.2.2.2; rw [show iI s55 4 = iI s 4 by omega, show iI s55 19 = iI s 19 by omega, dls55] at h; exact h
            exact w_iret X.1 q hRt (nar_ret (by first | exact oq_a0a77773 hps58.1 | omega)) (ax_d X (show cdA 77 150 = some (.ireturn, 1, 0, 0, 0) from rfl)) (Nat.zero_le _) (Nat.zero_le _) ⟨_, rfl, Is58, Gs58, JBYW_s58, JTKS_s58, e59, rfl, hrs58, ⟨rd_post hRD rfl (by omega) (by first | exact b7.1 | omega) (by first | exact b65.1 | omega) (fun h9 => by omega), by first | exact hps58.2.1 | omega, by first | exact hps58.2.2.1 | omega, hRD⟩⟩
          ·
            refine z_bipush X (show cdA 77 140 = some (.bipush (-13), 2, 0, 0, (-13)) from rfl) ?_
            refine z_goto X (t := 147) (show cdA 77 142 = some (.goto 5, 3, 0, 0, 0) from rfl) (by decide) ?_
            have hx9 : whV B N (iI s55 4) = whV B N (iI s 4) := by rw [show iI s55 4 = iI s 4 by omega]
            refine z_callV X 19 (rm := (rkR (4 * (0)))) (As := [.int (Int32.ofInt (-13))]) (st := []) (show cdA 77 147 = some (.invokevirtual 129, 3, 78, 0, 0) from rfl) rfl (by decide) rfl (by rw [E.1, E.2.1, E.2.2.1]; exact hT Is55 JBYW_s55 JTKS_s55 (by first | exact oq_48540d0e g57 hws55 g39 hws37 | omega) (by first | exact oq_72ebe5a4 ws55_1 ws55_2 ws37_1 ws37_2 ws13_1 ws13_2 p0 | omega) (by first | exact oq_7f1a346e ws55_4 ws55_2 ws37_4 ws37_2 ws13_4 ws13_2 p1 | omega) (by first | exact oq_21fef13e ws55_19 ws37_19 ws13_19 p2 | omega) (by first | exact oq_7f1a346e ws55_16 ws55_4 ws37_16 ws37_4 ws13_16 ws13_4 p3 | omega)) ⟨by rw [E.2.2.2]; exact (show (12 + (4 * (0))) + 1 ≤ (12 + (4 * (0) + 1)) from oq_46bc030d), by rw [E.2.2.2]; exact (show 8 + (2 + 11) + (500 + 45 * (4 * (0))) ≤ (500 + 45 * (4 * (0) + 1)) from oq_1283f125), by rw [E.2.2.2]; exact Nat.le_refl 0, by rw [E.2.2.2]; exact Nat.le_refl 0⟩ (Nat.le_of_ble_eq_true rfl) (fun vv s67 hq => ?_) (fun ee s67 hq => ?_)
            rotate_left
            · obtain ⟨Is67, Fs67, JBYW_s67, JTKS_s67, e68, hv, hrs67, hps67⟩ := hq; cases hv
            obtain ⟨Is67, Fs67, JBYW_s67, JTKS_s67, e68, hv, hrs67, hps67⟩ := hq
            cases hv
            have Gs67 := fm_ts Gs55 Fs67 (by decide) (by decide)
            have JBYW_s67 : BYW B N s67 := BYW_fm Fs67 (by decide) JBYW_s55
            have b69 : (0 : Int) ≤ iI s67 2 ∧ iI s67 2 ≤ 200 := Is67.1 2
            have ws67_1 : iI s67 1 = iI s55 1 := fm_i Fs67 (by decide)
            have b70 : (0 : Int) ≤ iI s67 4 ∧ iI s67 4 ≤ 200 := Is67.1 4
            have b71 : ((-3) : Int) ≤ iI s67 5 ∧ iI s67 5 ≤ 255 := Is67.1 5
            have b72 : (0 : Int) ≤ iI s67 6 ∧ iI s67 6 ≤ 100000 := Is67.1 6
            have b73 : (0 : Int) ≤ iI s67 19 ∧ iI s67 19 ≤ 6 := Is67.1 19
            have b74 : (0 : Int) ≤ iI s67 16 ∧ iI s67 16 ≤ 200 := Is67.1 16
            have b75 : (0 : Int) ≤ iI s67 7 ∧ iI s67 7 ≤ 9 := Is67.1 7
            show WS k 150 [(0, .ref (A 19))] [.int (Int32.ofInt e68)] (Wd A dT s67) 0 0
            have hRD : RDc B N 0 (iI s 4) (iI s 19) (DL s) s67 e68 := by have h := hps67.2.2.2; rw [show iI s55 4 = iI s 4 by omega, show iI s55 19 = iI s 19 by omega, dls55] at h; exact h
            exact w_iret X.1 q hRt (nar_ret (by first | exact oq_a2ffbee5 g57 hws55 g39 hws37 | omega)) (ax_d X (show cdA 77 150 = some (.ireturn, 1, 0, 0, 0) from rfl)) (Nat.zero_le _) (Nat.zero_le _) ⟨_, rfl, Is67, Gs67, JBYW_s67, JTKS_s67, e68, rfl, hrs67, ⟨rd_post hRD rfl (by first | exact oq_e61be49c g57 hws55 g39 hws37 | omega) (by first | exact b7.1 | omega) (by first | exact b74.1 | omega) (fun h9 => by first | exact oq_fa1d1fac g57 hws55 g39 hws37 | omega), by first | exact hps67.2.1 | omega, by first | exact hps67.2.2.1 | omega, hRD⟩⟩
    ·
      have hC := (hc0.1 (by omega)).1
      have hA := (hc0.1 (by omega)).2
      refine z_aload_n X (x := A 19) (show cdA 77 66 = some (.aload_n 0, 1, 0, 0, 0) from rfl) (List.Mem.head _) ?_
      refine z_callV X 19 (rm := rmN 80) (As := []) (st := []) (show cdA 77 67 = some (.invokevirtual 113, 3, 80, 0, 0) from rfl) rfl (by decide) rfl (by rw [E.1, E.2.1, E.2.2.1]; exact c7_enter3 G I jBYW jTKS (by first | exact p0 | omega) (by first | exact p1 | omega)) ⟨by rw [E.2.2.2]; exact (show 8 + 1 ≤ (12 + (4 * (0) + 1)) from oq_a933ac9a), by rw [E.2.2.2]; exact (show 8 + (1 + 11) + 143 ≤ (500 + 45 * (4 * (0) + 1)) from oq_36a13c53), by rw [E.2.2.2]; exact Nat.le_refl 0, by rw [E.2.2.2]; exact Nat.le_refl 0⟩ (Nat.le_of_ble_eq_true rfl) (fun vv s76 hq => ?_) (fun ee s76 hq => ?_)
      rotate_left
      · obtain ⟨Is76, Fs76, JBYW_s76, JTKS_s76, e77, hv, hrs76, hps76⟩ := hq; cases hv
      obtain ⟨Is76, Fs76, JBYW_s76, JTKS_s76, e77, hv, hrs76, hps76⟩ := hq
      cases hv
      have Gs76 := fm_ts F Fs76 (by decide) (by decide)
      have JBYW_s76 : BYW B N s76 := BYW_fm Fs76 (by decide) jBYW
      have b78 : (0 : Int) ≤ iI s76 2 ∧ iI s76 2 ≤ 200 := Is76.1 2
      have ws76_1 : iI s76 1 = iI s 1 := fm_i Fs76 (by decide)
      have b79 : (0 : Int) ≤ iI s76 4 ∧ iI s76 4 ≤ 200 := Is76.1 4
      have b80 : ((-3) : Int) ≤ iI s76 5 ∧ iI s76 5 ≤ 255 := Is76.1 5
      have b81 : (0 : Int) ≤ iI s76 6 ∧ iI s76 6 ≤ 100000 := Is76.1 6
      have b82 : (0 : Int) ≤ iI s76 19 ∧ iI s76 19 ≤ 6 := Is76.1 19
      have ws76_16 : iI s76 16 = iI s 16 := fm_i Fs76 (by decide)
      have b83 : (0 : Int) ≤ iI s76 7 ∧ iI s76 7 ≤ 9 := Is76.1 7
      have dls76 : DL s76 = DL s := (DL_fm Fs76 (by decide) (by decide)).trans rfl
      show WS k 70 [(0, .ref (A 19))] [.int (Int32.ofInt e77)] (Wd A dT s76) 0 0
      refine z_if_eq X (t := 89) (show cdA 77 70 = some (.ifCond .eq 19, 3, 0, 0, 0) from rfl) (by decide) hrs76 (fun g84 => ?_) (fun g84 => ?_)
      ·
        refine z_const X (show cdA 77 89 = some (.iconst 0, 1, 0, 0, 0) from rfl) ?_
        have hRD : RDc B N 0 (iI s 4) (iI s 19) (DL s) s76 0 := rd_no (pu_p3 hC (by omega)) (by decide) (by omega)
        exact w_iret X.1 q hRt (nar_ret (by first | exact Or.inl (by decide) | omega)) (ax_d X (show cdA 77 90 = some (.ireturn, 1, 0, 0, 0) from rfl)) (Nat.zero_le _) (Nat.zero_le _) ⟨_, rfl, Is76, Gs76, JBYW_s76, JTKS_s76, 0, rfl, (by decide), ⟨rd_post hRD rfl (by omega) (by first | exact b7.1 | omega) (by first | exact oq_e4757433 ws76_16 b7.1 | omega) (fun h9 => absurd rfl h9), by first | exact hps76.2.1 | omega, by first | exact hps76.2.2 | omega, hRD⟩⟩
      ·
        exfalso
        omega
  ·
    have hz := hdg.1 (by omega)
    refine z_aload_n X (x := A 19) (show cdA 77 12 = some (.aload_n 0, 1, 0, 0, 0) from rfl) (List.Mem.head _) ?_
    refine s_getR X 19 (show cdA 77 13 = some (.getfield 31, 3, 7, 0, 0) from rfl) (by decide) rfl rfl ?_
    refine z_getI X 1 (show cdA 77 16 = some (.getfield 122, 3, 10, 7, 0) from rfl) (by decide) rfl rfl ?_
    have b85 : (0 : Int) ≤ iI s 6 ∧ iI s 6 ≤ 100000 := I.1 6
    refine z_sipush X (show cdA 77 19 = some (.sipush 999, 3, 0, 0, 999) from rfl) ?_
    refine z_icmp_le X (t := 34) (show cdA 77 22 = some (.if_icmp .le 12, 3, 5, 0, 0) from rfl) (by decide) (rng_to _) (by decide) (fun g86 => ?_) (fun g86 => ?_)
    ·
      refine z_aload_n X (x := A 19) (show cdA 77 34 = some (.aload_n 0, 1, 0, 0, 0) from rfl) (List.Mem.head _) ?_
      refine z_aload_n X (x := A 19) (show cdA 77 35 = some (.aload_n 0, 1, 0, 0, 0) from rfl) (List.Mem.head _) ?_
      refine s_getR X 19 (show cdA 77 36 = some (.getfield 31, 3, 7, 0, 0) from rfl) (by decide) rfl rfl ?_
      refine z_getI X 1 (show cdA 77 39 = some (.getfield 122, 3, 10, 7, 0) from rfl) (by decide) rfl rfl ?_
      have b87 : (0 : Int) ≤ iI s 6 ∧ iI s 6 ≤ 100000 := I.1 6
      refine z_callV X 19 (rm := rmN 82) (As := [.int (Int32.ofInt (iI s 6))]) (st := []) (show cdA 77 42 = some (.invokevirtual 103, 3, 82, 0, 0) from rfl) rfl (by decide) rfl (by rw [E.1, E.2.1, E.2.2.1]; exact c7_put3 G I (by first | exact ⟨oq_fa4e5087 b87.1, oq_25953902 b87.2⟩ | omega) (by omega)) ⟨by rw [E.2.2.2]; exact (show 6 + 1 ≤ (12 + (4 * (0) + 1)) from oq_57ddffaa), by rw [E.2.2.2]; exact (show 8 + (2 + 11) + 100 ≤ (500 + 45 * (4 * (0) + 1)) from oq_9971bdcd), by rw [E.2.2.2]; exact Nat.le_refl 0, by rw [E.2.2.2]; exact Nat.le_refl 0⟩ (Nat.le_of_ble_eq_true rfl) (fun vv s88 hq => ?_) (fun ee s88 hq => ?_)
      rotate_left
      · obtain ⟨Is88, Fs88, hv, hps88⟩ := hq; cases hv
      obtain ⟨Is88, Fs88, hv, hps88⟩ := hq
      cases hv
      have Gs88 := fm_ts F Fs88 (by decide) (by decide)
      have JBYW_s88 : BYW B N s88 := BYW_fm Fs88 (by decide) jBYW
      have JTKS_s88 : TKS B N s88 := TKS_fm Fs88 (by decide) jTKS
      have ws88_2 : iI s88 2 = iI s 2 := fm_i Fs88 (by decide)
      have ws88_1 : iI s88 1 = iI s 1 := fm_i Fs88 (by decide)
      have ws88_4 : iI s88 4 = iI s 4 := fm_i Fs88 (by decide)
      have ws88_5 : iI s88 5 = iI s 5 := fm_i Fs88 (by decide)
      have ws88_6 : iI s88 6 = iI s 6 := fm_i Fs88 (by decide)
      have ws88_19 : iI s88 19 = iI s 19 := fm_i Fs88 (by decide)
      have b90 : (0 : Int) ≤ iI s88 16 ∧ iI s88 16 ≤ 200 := Is88.1 16
      have ws88_7 : iI s88 7 = iI s 7 := fm_i Fs88 (by decide)
      have dls88 : DL s88 = DL s ++ [(iI s 6)] := by rw [hps88.2]
      show WS k 45 [(0, .ref (A 19))] [] (Wd A dT s88) 0 0
      refine z_aload_n X (x := A 19) (show cdA 77 45 = some (.aload_n 0, 1, 0, 0, 0) from rfl) (List.Mem.head _) ?_
      refine s_getR X 19 (show cdA 77 46 = some (.getfield 31, 3, 7, 0, 0) from rfl) (by decide) rfl rfl ?_
      refine z_callV X 1 (rm := rmN 129) (As := []) (st := []) (show cdA 77 49 = some (.invokevirtual 85, 3, 129, 0, 0) from rfl) rfl (by decide) rfl (by rw [E.1, E.2.1, E.2.2.1]; exact c10_step3 G Is88 JBYW_s88 (by first | exact oq_e7b9ecab ws88_1 ws88_2 p0 | omega)) ⟨by rw [E.2.2.2]; exact (show 7 + 1 ≤ (12 + (4 * (0) + 1)) from oq_547cef8b), by rw [E.2.2.2]; exact (show 8 + (1 + 11) + 121 ≤ (500 + 45 * (4 * (0) + 1)) from oq_0392e5c6), by rw [E.2.2.2]; exact Nat.le_refl 0, by rw [E.2.2.2]; exact Nat.le_refl 0⟩ (Nat.le_of_ble_eq_true rfl) (fun vv s91 hq => ?_) (fun ee s91 hq => ?_)
      rotate_left
      · obtain ⟨Is91, Fs91, JBYW_s91, JTKS_s91, hv, hps91⟩ := hq; cases hv
      obtain ⟨Is91, Fs91, JBYW_s91, JTKS_s91, hv, hps91⟩ := hq
      cases hv
      have Gs91 := fm_ts Gs88 Fs91 (by decide) (by decide)
      have JBYW_s91 : BYW B N s91 := BYW_fm Fs91 (by decide) JBYW_s88
      have b93 : (0 : Int) ≤ iI s91 2 ∧ iI s91 2 ≤ 200 := Is91.1 2
      have ws91_1 : iI s91 1 = iI s88 1 := fm_i Fs91 (by decide)
      have b94 : (0 : Int) ≤ iI s91 4 ∧ iI s91 4 ≤ 200 := Is91.1 4
      have b95 : ((-3) : Int) ≤ iI s91 5 ∧ iI s91 5 ≤ 255 := Is91.1 5
      have b96 : (0 : Int) ≤ iI s91 6 ∧ iI s91 6 ≤ 100000 := Is91.1 6
      have ws91_19 : iI s91 19 = iI s88 19 := fm_i Fs91 (by decide)
      have ws91_16 : iI s91 16 = iI s88 16 := fm_i Fs91 (by decide)
      have ws91_7 : iI s91 7 = iI s88 7 := fm_i Fs91 (by decide)
      have dls91 : DL s91 = DL s ++ [(iI s 6)] := (DL_fm Fs91 (by decide) (by decide)).trans dls88
      show WS k 52 [(0, .ref (A 19))] [] (Wd A dT s91) 0 0
      refine z_const X (show cdA 77 52 = some (.iconst 1, 1, 0, 0, 0) from rfl) ?_
      have hRD : RDc B N 0 (iI s 4) (iI s 19) (DL s) s91 1 := rd_ok (pu_num hz.1 (by omega)) (by rw [hps91.2.2.1, show iI s88 2 = nmE B N (iI s 4) 0 by omega]) (by rw [dls91, show (iI s 6) = nmV B N (iI s 4) 0 by omega])
      exact w_iret X.1 q hRt (nar_ret (by first | exact Or.inr (by decide) | omega)) (ax_d X (show cdA 77 53 = some (.ireturn, 1, 0, 0, 0) from rfl)) (Nat.zero_le _) (Nat.zero_le _) ⟨_, rfl, Is91, Gs91, JBYW_s91, JTKS_s91, 1, rfl, (by decide), ⟨rd_post hRD rfl (by omega) (by first | exact b7.1 | omega) (by first | exact oq_e4757433 ws91_16 b90.1 | omega) (fun h9 => by first | exact oq_1aa5be9e ws91_19 ws88_19 | omega), by first | exact hps91.1 | omega, by first | exact hps91.2.1 | omega, hRD⟩⟩
    ·
      refine z_aload_n X (x := A 19) (show cdA 77 25 = some (.aload_n 0, 1, 0, 0, 0) from rfl) (List.Mem.head _) ?_
      refine s_getR X 19 (show cdA 77 26 = some (.getfield 31, 3, 7, 0, 0) from rfl) (by decide) rfl rfl ?_
      refine z_const X (show cdA 77 29 = some (.iconst 2, 1, 0, 0, 0) from rfl) ?_
      refine z_callV X 1 (rm := rmN 132) (As := [.int (Int32.ofInt 2)]) (st := []) (show cdA 77 30 = some (.invokevirtual 82, 3, 132, 0, 0) from rfl) rfl (by decide) rfl (by rw [E.1, E.2.1, E.2.2.1]; exact c10_refuse3 G I (by first | exact ⟨by decide, by decide⟩ | omega)) ⟨by rw [E.2.2.2]; exact (show 7 + 1 ≤ (12 + (4 * (0) + 1)) from oq_547cef8b), by rw [E.2.2.2]; exact (show 8 + (2 + 11) + 122 ≤ (500 + 45 * (4 * (0) + 1)) from oq_06c7c12d), by rw [E.2.2.2]; exact Nat.le_refl 0, by rw [E.2.2.2]; exact Nat.le_refl 0⟩ (Nat.le_of_ble_eq_true rfl) (fun vv s97 hq => ?_) (fun ee s97 hq => ?_)
      rotate_left
      · obtain ⟨Is97, Fs97, e98, hv, hrs97, hps97⟩ := hq; cases hv
      obtain ⟨Is97, Fs97, e98, hv, hrs97, hps97⟩ := hq
      cases hv
      have Gs97 := fm_ts F Fs97 (by decide) (by decide)
      have JBYW_s97 : BYW B N s97 := BYW_fm Fs97 (by decide) jBYW
      have JTKS_s97 : TKS B N s97 := TKS_fm Fs97 (by decide) jTKS
      have ws97_2 : iI s97 2 = iI s 2 := fm_i Fs97 (by decide)
      have ws97_1 : iI s97 1 = iI s 1 := fm_i Fs97 (by decide)
      have ws97_4 : iI s97 4 = iI s 4 := fm_i Fs97 (by decide)
      have ws97_5 : iI s97 5 = iI s 5 := fm_i Fs97 (by decide)
      have ws97_6 : iI s97 6 = iI s 6 := fm_i Fs97 (by decide)
      have ws97_19 : iI s97 19 = iI s 19 := fm_i Fs97 (by decide)
      have ws97_16 : iI s97 16 = iI s 16 := fm_i Fs97 (by decide)
      have b99 : (0 : Int) ≤ iI s97 7 ∧ iI s97 7 ≤ 9 := Is97.1 7
      have dls97 : DL s97 = DL s := (DL_fm Fs97 (by decide) (by decide)).trans rfl
      show WS k 33 [(0, .ref (A 19))] [.int (Int32.ofInt e98)] (Wd A dT s97) 0 0
      have hRD : RDc B N 0 (iI s 4) (iI s 19) (DL s) s97 e98 := by rw [show e98 = 0 by omega]; exact rd_no (pu_big hz.1 (by omega)) (by decide) (by omega)
      exact w_iret X.1 q hRt (nar_ret (by first | exact Or.inl (hps97.1) | omega)) (ax_d X (show cdA 77 33 = some (.ireturn, 1, 0, 0, 0) from rfl)) (Nat.zero_le _) (Nat.zero_le _) ⟨_, rfl, Is97, Gs97, JBYW_s97, JTKS_s97, e98, rfl, hrs97, ⟨rd_post hRD rfl (by omega) (by first | exact b7.1 | omega) (by first | exact oq_e4757433 ws97_16 b7.1 | omega) (fun h9 => by first | exact ws97_19 | omega), by first | exact oq_e7b9ecab ws97_1 ws97_2 p0 | omega, by first | exact oq_e7b9ecab ws97_2 ws97_4 p1 | omega, hRD⟩⟩
set_option maxRecDepth 4000 in
theorem c7_unitS3 (G : GX l s0 D tys a0 dT) {B : Nat → Int} {N : Int} (SF : SF0 s0) (GT : TXw0 s0) {r : Nat} (hT : ∀ {s : PS} {x : Int}, Bd s → BYW B N s → TKS B N s → ((x = -13 ∧ whV B N (iI s 4) = 6476969) ∨ (x = -14 ∧ whV B N (iI s 4) = 267347)) → (iI s 2 ≤ iI s 1) → (iI s 4 ≤ iI s 2) → (6 - iI s 19 ≤ ((r + 1 : Nat) : Int)) → (iI s 16 ≤ iI s 4) → CT l s0 D A dT 78 (rkR (4 * (r + 1))) [.ref (A 19), .int (Int32.ofInt x)] s (fun o t => Bd t ∧ Fm [2, 4, 6, 5, 7, 8, 19, 16] [18] s t ∧ BYW B N t ∧ TKS B N t ∧ ∃ e, o = .inl (some (.int (Int32.ofInt e))) ∧ rng e ∧ ((e = 0 ∨ (e = 1 ∧ iI t 19 = iI s 19 ∧ iI s 4 ≤ iI t 4 ∧ iI t 4 ≤ N ∧ iI t 16 + iI s 4 ≤ iI s 16 + iI t 4)) ∧ iI t 2 ≤ iI t 1 ∧ iI t 4 ≤ iI t 2 ∧ RDc B N 0 (iI s 4) (iI s 19) (DL s) t e))) (hS : ∀ {s : PS} , Bd s → BYW B N s → TKS B N s → (iI s 2 ≤ iI s 1) → (iI s 4 ≤ iI s 2) → (6 - iI s 19 ≤ ((r : Nat) : Int)) → (iI s 16 ≤ iI s 4) → CT l s0 D A dT 75 (rkR (4 * (r) + 3)) [.ref (A 19)] s (fun o t => Bd t ∧ Fm [2, 4, 6, 5, 7, 8, 19, 16] [18] s t ∧ BYW B N t ∧ TKS B N t ∧ ∃ e, o = .inl (some (.int (Int32.ofInt e))) ∧ rng e ∧ ((e = 0 ∨ (e = 1 ∧ iI t 19 = iI s 19 ∧ iI s 4 ≤ iI t 4 ∧ iI t 4 ≤ N ∧ iI t 16 + iI s 4 ≤ iI s 16 + iI t 4)) ∧ iI t 2 ≤ iI t 1 ∧ iI t 4 ≤ iI t 2 ∧ RDc B N 3 (iI s 4) (iI s 19) (DL s) t e))) (I : Bd s) (jBYW : BYW B N s) (jTKS : TKS B N s) (p0 : iI s 2 ≤ iI s 1) (p1 : iI s 4 ≤ iI s 2) (p2 : 6 - iI s 19 ≤ ((r + 1 : Nat) : Int)) (p3 : iI s 16 ≤ iI s 4) : CT l s0 D A dT 77 (rkR (4 * (r + 1) + 1)) [.ref (A 19)] s (fun o t => Bd t ∧ Fm [2, 4, 6, 5, 7, 8, 19, 16] [18] s t ∧ BYW B N t ∧ TKS B N t ∧ ∃ e, o = .inl (some (.int (Int32.ofInt e))) ∧ rng e ∧ ((e = 0 ∨ (e = 1 ∧ iI t 19 = iI s 19 ∧ iI s 4 ≤ iI t 4 ∧ iI t 4 ≤ N ∧ iI t 16 + iI s 4 ≤ iI s 16 + iI t 4)) ∧ iI t 2 ≤ iI t 1 ∧ iI t 4 ≤ iI t 2 ∧ RDc B N 0 (iI s 4) (iI s 19) (DL s) t e)) := by
  refine ct_ofX G (by decide) (Nat.le_of_ble_eq_true rfl) (fun k X E ET hRt hXt q => ?_)
  show WS k 0 [(0, .ref (A 19))] [] _ 0 0
  have F : Fm [2, 4, 6, 5, 7, 8, 19, 16] [18] s s := fm_rf _ _ s
  have hN := jBYW.2.1
  have hW := jBYW.2.2
  have hdg := tkw_dg jTKS
  have hwd := tkw_wd jTKS
  have hc0 := tkw_ch (x := 40) jTKS (by decide) (by decide) (by decide)
  have b1 : (0 : Int) ≤ iI s 2 ∧ iI s 2 ≤ 200 := I.1 2
  have b2 : (0 : Int) ≤ iI s 1 ∧ iI s 1 ≤ 200 := I.1 1
  have b3 : (0 : Int) ≤ iI s 4 ∧ iI s 4 ≤ 200 := I.1 4
  have b4 : ((-3) : Int) ≤ iI s 5 ∧ iI s 5 ≤ 255 := I.1 5
  have b5 : (0 : Int) ≤ iI s 6 ∧ iI s 6 ≤ 100000 := I.1 6
  have b6 : (0 : Int) ≤ iI s 19 ∧ iI s 19 ≤ 6 := I.1 19
  have b7 : (0 : Int) ≤ iI s 16 ∧ iI s 16 ≤ 200 := I.1 16
  have b8 : (0 : Int) ≤ iI s 7 ∧ iI s 7 ≤ 9 := I.1 7
  refine z_aload_n X (x := A 19) (show cdA 77 0 = some (.aload_n 0, 1, 0, 0, 0) from rfl) (List.Mem.head _) ?_
  refine s_getR X 19 (show cdA 77 1 = some (.getfield 31, 3, 7, 0, 0) from rfl) (by decide) rfl rfl ?_
  refine z_getI X 1 (show cdA 77 4 = some (.getfield 47, 3, 10, 6, 0) from rfl) (by decide) rfl rfl ?_
  have b9 : ((-3) : Int) ≤ iI s 5 ∧ iI s 5 ≤ 255 := I.1 5
  refine z_bipush X (show cdA 77 7 = some (.bipush (-2), 2, 0, 0, (-2)) from rfl) ?_
  refine z_icmp_ne X (t := 54) (show cdA 77 9 = some (.if_icmp .ne 45, 3, 1, 0, 0) from rfl) (by decide) (rng_to _) (by decide) (fun g10 => ?_) (fun g10 => ?_)
  ·
    refine z_aload_n X (x := A 19) (show cdA 77 54 = some (.aload_n 0, 1, 0, 0, 0) from rfl) (List.Mem.head _) ?_
    refine s_getR X 19 (show cdA 77 55 = some (.getfield 31, 3, 7, 0, 0) from rfl) (by decide) rfl rfl ?_
    refine z_getI X 1 (show cdA 77 58 = some (.getfield 47, 3, 10, 6, 0) from rfl) (by decide) rfl rfl ?_
    have b11 : ((-3) : Int) ≤ iI s 5 ∧ iI s 5 ≤ 255 := I.1 5
    refine z_bipush X (show cdA 77 61 = some (.bipush 40, 2, 0, 0, 40) from rfl) ?_
    refine z_icmp_ne X (t := 103) (show cdA 77 63 = some (.if_icmp .ne 40, 3, 1, 0, 0) from rfl) (by decide) (rng_to _) (by decide) (fun g12 => ?_) (fun g12 => ?_)
    ·
      refine z_aload_n X (x := A 19) (show cdA 77 103 = some (.aload_n 0, 1, 0, 0, 0) from rfl) (List.Mem.head _) ?_
      refine s_getR X 19 (show cdA 77 104 = some (.getfield 31, 3, 7, 0, 0) from rfl) (by decide) rfl rfl ?_
      obtain ⟨tx125, q125, hR125, hS125⟩ := GT (125, [108, 101, 97, 115, 116]) (by decide)
      refine w_ldcK X (show vk_R (kOwn k) 125 tx125 q125 (kS0 k) by rw [E.2.1, X.2.1.2.1]; exact hR125) (show decode (kCc k) 107 = .ok (.ldc 125, 2) by rw [X.2.1.1]; decide +kernel) ?_
      refine z_callV X 1 (rm := rmN 131) (As := [.ref q125]) (st := []) (show cdA 77 109 = some (.invokevirtual 76, 3, 131, 0, 0) from rfl) rfl (by decide) rfl (by rw [E.1, E.2.1, E.2.2.1]; exact c10_says3 G SF hS125 (by decide) I jBYW jTKS (by first | exact p1 | omega)) ⟨by rw [E.2.2.2]; exact (show 11 + 1 ≤ (12 + (4 * (r + 1) + 1)) from oq_21805ac9 r), by rw [E.2.2.2]; exact (show 8 + (3 + 11) + 206 ≤ (500 + 45 * (4 * (r + 1) + 1)) from oq_1a54e9c9 r), by rw [E.2.2.2]; exact Nat.le_refl 0, by rw [E.2.2.2]; exact Nat.le_refl 0⟩ (Nat.le_of_ble_eq_true rfl) (fun vv s13 hq => ?_) (fun ee s13 hq => ?_)
      rotate_left
      · obtain ⟨Is13, Fs13, JBYW_s13, JTKS_s13, e14, hv, hrs13, hps13⟩ := hq; cases hv
      obtain ⟨Is13, Fs13, JBYW_s13, JTKS_s13, e14, hv, hrs13, hps13⟩ := hq
      cases hv
      have Gs13 := fm_ts F Fs13 (by decide) (by decide)
      have JBYW_s13 : BYW B N s13 := BYW_fm Fs13 (by decide) jBYW
      have JTKS_s13 : TKS B N s13 := TKS_fm Fs13 (by decide) jTKS
      have ws13_2 : iI s13 2 = iI s 2 := fm_i Fs13 (by decide)
      have ws13_1 : iI s13 1 = iI s 1 := fm_i Fs13 (by decide)
      have ws13_4 : iI s13 4 = iI s 4 := fm_i Fs13 (by decide)
      have ws13_5 : iI s13 5 = iI s 5 := fm_i Fs13 (by decide)
      have ws13_6 : iI s13 6 = iI s 6 := fm_i Fs13 (by decide)
      have ws13_19 : iI s13 19 = iI s 19 := fm_i Fs13 (by decide)
      have ws13_16 : iI s13 16 = iI s 16 := fm_i Fs13 (by decide)
      have ws13_7 : iI s13 7 = iI s 7 := fm_i Fs13 (by decide)
      have dls13 : DL s13 = DL s := (DL_fm Fs13 (by decide) (by decide)).trans rfl
      have hws13 : (e14 = 1 ∧ whV B N (iI s 4) = 6476969) ∨ (e14 = 0 ∧ whV B N (iI s 4) ≠ 6476969) := by have h := hps13; rw [show iI s 4 = iI s 4 by omega, show whL [108, 101, 97, 115, 116] 0 = 6476969 by decide] at h; exact h
      show WS k 112 [(0, .ref (A 19))] [.int (Int32.ofInt e14)] (Wd A dT s13) 0 0
      refine z_if_ne X (t := 127) (show cdA 77 112 = some (.ifCond .ne 15, 3, 1, 0, 0) from rfl) (by decide) hrs13 (fun g15 => ?_) (fun g15 => ?_)
      ·
        refine z_aload_n X (x := A 19) (show cdA 77 127 = some (.aload_n 0, 1, 0, 0, 0) from rfl) (List.Mem.head _) ?_
        refine z_aload_n X (x := A 19) (show cdA 77 128 = some (.aload_n 0, 1, 0, 0, 0) from rfl) (List.Mem.head _) ?_
        refine s_getR X 19 (show cdA 77 129 = some (.getfield 31, 3, 7, 0, 0) from rfl) (by decide) rfl rfl ?_
        obtain ⟨tx125, q125, hR125, hS125⟩ := GT (125, [108, 101, 97, 115, 116]) (by decide)
        refine w_ldcK X (show vk_R (kOwn k) 125 tx125 q125 (kS0 k) by rw [E.2.1, X.2.1.2.1]; exact hR125) (show decode (kCc k) 132 = .ok (.ldc 125, 2) by rw [X.2.1.1]; decide +kernel) ?_
        refine z_callV X 1 (rm := rmN 131) (As := [.ref q125]) (st := [.ref (A 19)]) (show cdA 77 134 = some (.invokevirtual 76, 3, 131, 0, 0) from rfl) rfl (by decide) rfl (by rw [E.1, E.2.1, E.2.2.1]; exact c10_says3 G SF hS125 (by decide) Is13 JBYW_s13 JTKS_s13 (by first | exact oq_e7b9ecab ws13_2 ws13_4 p1 | omega)) ⟨by rw [E.2.2.2]; exact (show 11 + 1 ≤ (12 + (4 * (r + 1) + 1)) from oq_21805ac9 r), by rw [E.2.2.2]; exact (show 8 + (3 + 11) + 206 ≤ (500 + 45 * (4 * (r + 1) + 1)) from oq_1a54e9c9 r), by rw [E.2.2.2]; exact Nat.le_refl 0, by rw [E.2.2.2]; exact Nat.le_refl 0⟩ (Nat.le_of_ble_eq_true rfl) (fun vv s16 hq => ?_) (fun ee s16 hq => ?_)
        rotate_left
        · obtain ⟨Is16, Fs16, JBYW_s16, JTKS_s16, e17, hv, hrs16, hps16⟩ := hq; cases hv
        obtain ⟨Is16, Fs16, JBYW_s16, JTKS_s16, e17, hv, hrs16, hps16⟩ := hq
        cases hv
        have Gs16 := fm_ts Gs13 Fs16 (by decide) (by decide)
        have JBYW_s16 : BYW B N s16 := BYW_fm Fs16 (by decide) JBYW_s13
        have JTKS_s16 : TKS B N s16 := TKS_fm Fs16 (by decide) JTKS_s13
        have ws16_2 : iI s16 2 = iI s13 2 := fm_i Fs16 (by decide)
        have ws16_1 : iI s16 1 = iI s13 1 := fm_i Fs16 (by decide)
        have ws16_4 : iI s16 4 = iI s13 4 := fm_i Fs16 (by decide)
        have ws16_5 : iI s16 5 = iI s13 5 := fm_i Fs16 (by decide)
        have ws16_6 : iI s16 6 = iI s13 6 := fm_i Fs16 (by decide)
        have ws16_19 : iI s16 19 = iI s13 19 := fm_i Fs16 (by decide)
        have ws16_16 : iI s16 16 = iI s13 16 := fm_i Fs16 (by decide)
        have ws16_7 : iI s16 7 = iI s13 7 := fm_i Fs16 (by decide)
        have dls16 : DL s16 = DL s := (DL_fm Fs16 (by decide) (by decide)).trans dls13
        have hws16 : (e17 = 1 ∧ whV B N (iI s 4) = 6476969) ∨ (e17 = 0 ∧ whV B N (iI s 4) ≠ 6476969) := by have h := hps16; rw [show iI s13 4 = iI s 4 by omega, show whL [108, 101, 97, 115, 116] 0 = 6476969 by decide] at h; exact h
        show WS k 137 [(0, .ref (A 19))] [.int (Int32.ofInt e17), .ref (A 19)] (Wd A dT s16) 0 0
        refine z_if_eq X (t := 145) (show cdA 77 137 = some (.ifCond .eq 8, 3, 0, 0, 0) from rfl) (by decide) hrs16 (fun g18 => ?_) (fun g18 => ?_)
        ·
          refine z_bipush X (show cdA 77 145 = some (.bipush (-14), 2, 0, 0, (-14)) from rfl) ?_
          have hx9 : whV B N (iI s16 4) = whV B N (iI s 4) := by rw [show iI s16 4 = iI s 4 by omega]
          refine z_callV X 19 (rm := (rkR (4 * (r + 1)))) (As := [.int (Int32.ofInt (-14))]) (st := []) (show cdA 77 147 = some (.invokevirtual 129, 3, 78, 0, 0) from rfl) rfl (by decide) rfl (by rw [E.1, E.2.1, E.2.2.1]; exact hT Is16 JBYW_s16 JTKS_s16 (by first | exact oq_9dd6f593 g18 hws16 g15 hws13 | omega) (by first | exact oq_4407eb3c ws16_1 ws16_2 ws13_1 ws13_2 p0 | omega) (by first | exact oq_4407eb3c ws16_2 ws16_4 ws13_2 ws13_4 p1 | omega) (by first | exact oq_94b38e3b p2 ws16_19 ws13_19 | omega) (by first | exact oq_4407eb3c ws16_4 ws16_16 ws13_4 ws13_16 p3 | omega)) ⟨by rw [E.2.2.2]; exact (show (12 + (4 * (r + 1))) + 1 ≤ (12 + (4 * (r + 1) + 1)) from oq_183d1057 r), by rw [E.2.2.2]; exact (show 8 + (2 + 11) + (500 + 45 * (4 * (r + 1))) ≤ (500 + 45 * (4 * (r + 1) + 1)) from oq_ce6206a2 r), by rw [E.2.2.2]; exact Nat.le_refl 0, by rw [E.2.2.2]; exact Nat.le_refl 0⟩ (Nat.le_of_ble_eq_true rfl) (fun vv s19 hq => ?_) (fun ee s19 hq => ?_)
          rotate_left
          · obtain ⟨Is19, Fs19, JBYW_s19, JTKS_s19, e20, hv, hrs19, hps19⟩ := hq; cases hv
          obtain ⟨Is19, Fs19, JBYW_s19, JTKS_s19, e20, hv, hrs19, hps19⟩ := hq
          cases hv
          have Gs19 := fm_ts Gs16 Fs19 (by decide) (by decide)
          have JBYW_s19 : BYW B N s19 := BYW_fm Fs19 (by decide) JBYW_s16
          have b21 : (0 : Int) ≤ iI s19 2 ∧ iI s19 2 ≤ 200 := Is19.1 2
          have ws19_1 : iI s19 1 = iI s16 1 := fm_i Fs19 (by decide)
          have b22 : (0 : Int) ≤ iI s19 4 ∧ iI s19 4 ≤ 200 := Is19.1 4
          have b23 : ((-3) : Int) ≤ iI s19 5 ∧ iI s19 5 ≤ 255 := Is19.1 5
          have b24 : (0 : Int) ≤ iI s19 6 ∧ iI s19 6 ≤ 100000 := Is19.1 6
          have b25 : (0 : Int) ≤ iI s19 19 ∧ iI s19 19 ≤ 6 := Is19.1 19
          have b26 : (0 : Int) ≤ iI s19 16 ∧ iI s19 16 ≤ 200 := Is19.1 16
          have b27 : (0 : Int) ≤ iI s19 7 ∧ iI s19 7 ≤ 9 := Is19.1 7
          show WS k 150 [(0, .ref (A 19))] [.int (Int32.ofInt e20)] (Wd A dT s19) 0 0
          have hRD : RDc B N 0 (iI s 4) (iI s 19) (DL s) s19 e20 := by have h := hps19.2.2.2; rw [show iI s16 4 = iI s 4 by omega, show iI s16 19 = iI s 19 by omega, dls16] at h; exact h
          exact w_iret X.1 q hRt (nar_ret (by first | exact oq_a0a77773 hps19.1 | omega)) (ax_d X (show cdA 77 150 = some (.ireturn, 1, 0, 0, 0) from rfl)) (Nat.zero_le _) (Nat.zero_le _) ⟨_, rfl, Is19, Gs19, JBYW_s19, JTKS_s19, e20, rfl, hrs19, ⟨rd_post hRD rfl (by first | exact oq_82452333 g18 hws16 g15 hws13 | omega) (by first | exact b7.1 | omega) (by first | exact b26.1 | omega) (fun h9 => by first | exact oq_6c3824d5 g18 hws16 g15 hws13 | omega), by first | exact hps19.2.1 | omega, by first | exact hps19.2.2.1 | omega, hRD⟩⟩
        ·
          refine z_bipush X (show cdA 77 140 = some (.bipush (-13), 2, 0, 0, (-13)) from rfl) ?_
          refine z_goto X (t := 147) (show cdA 77 142 = some (.goto 5, 3, 0, 0, 0) from rfl) (by decide) ?_
          have hx9 : whV B N (iI s16 4) = whV B N (iI s 4) := by rw [show iI s16 4 = iI s 4 by omega]
          refine z_callV X 19 (rm := (rkR (4 * (r + 1)))) (As := [.int (Int32.ofInt (-13))]) (st := []) (show cdA 77 147 = some (.invokevirtual 129, 3, 78, 0, 0) from rfl) rfl (by decide) rfl (by rw [E.1, E.2.1, E.2.2.1]; exact hT Is16 JBYW_s16 JTKS_s16 (by first | exact oq_477ae4c3 hx9 g18 hws16 | omega) (by first | exact oq_4407eb3c ws16_1 ws16_2 ws13_1 ws13_2 p0 | omega) (by first | exact oq_4407eb3c ws16_2 ws16_4 ws13_2 ws13_4 p1 | omega) (by first | exact oq_94b38e3b p2 ws16_19 ws13_19 | omega) (by first | exact oq_4407eb3c ws16_4 ws16_16 ws13_4 ws13_16 p3 | omega)) ⟨by rw [E.2.2.2]; exact (show (12 + (4 * (r + 1))) + 1 ≤ (12 + (4 * (r + 1) + 1)) from oq_183d1057 r), by rw [E.2.2.2]; exact (show 8 + (2 + 11) + (500 + 45 * (4 * (r + 1))) ≤ (500 + 45 * (4 * (r + 1) + 1)) from oq_ce6206a2 r), by rw [E.2.2.2]; exact Nat.le_refl 0, by rw [E.2.2.2]; exact Nat.le_refl 0⟩ (Nat.le_of_ble_eq_true rfl) (fun vv s28 hq => ?_) (fun ee s28 hq => ?_)
          rotate_left
          · obtain ⟨Is28, Fs28, JBYW_s28, JTKS_s28, e29, hv, hrs28, hps28⟩ := hq; cases hv
          obtain ⟨Is28, Fs28, JBYW_s28, JTKS_s28, e29, hv, hrs28, hps28⟩ := hq
          cases hv
          have Gs28 := fm_ts Gs16 Fs28 (by decide) (by decide)
          have JBYW_s28 : BYW B N s28 := BYW_fm Fs28 (by decide) JBYW_s16
          have b30 : (0 : Int) ≤ iI s28 2 ∧ iI s28 2 ≤ 200 := Is28.1 2
          have ws28_1 : iI s28 1 = iI s16 1 := fm_i Fs28 (by decide)
          have b31 : (0 : Int) ≤ iI s28 4 ∧ iI s28 4 ≤ 200 := Is28.1 4
          have b32 : ((-3) : Int) ≤ iI s28 5 ∧ iI s28 5 ≤ 255 := Is28.1 5
          have b33 : (0 : Int) ≤ iI s28 6 ∧ iI s28 6 ≤ 100000 := Is28.1 6
          have b34 : (0 : Int) ≤ iI s28 19 ∧ iI s28 19 ≤ 6 := Is28.1 19
          have b35 : (0 : Int) ≤ iI s28 16 ∧ iI s28 16 ≤ 200 := Is28.1 16
          have b36 : (0 : Int) ≤ iI s28 7 ∧ iI s28 7 ≤ 9 := Is28.1 7
          show WS k 150 [(0, .ref (A 19))] [.int (Int32.ofInt e29)] (Wd A dT s28) 0 0
          have hRD : RDc B N 0 (iI s 4) (iI s 19) (DL s) s28 e29 := by have h := hps28.2.2.2; rw [show iI s16 4 = iI s 4 by omega, show iI s16 19 = iI s 19 by omega, dls16] at h; exact h
          exact w_iret X.1 q hRt (nar_ret (by first | exact oq_a0a77773 hps28.1 | omega)) (ax_d X (show cdA 77 150 = some (.ireturn, 1, 0, 0, 0) from rfl)) (Nat.zero_le _) (Nat.zero_le _) ⟨_, rfl, Is28, Gs28, JBYW_s28, JTKS_s28, e29, rfl, hrs28, ⟨rd_post hRD rfl (by omega) (by first | exact b7.1 | omega) (by first | exact b35.1 | omega) (fun h9 => by omega), by first | exact hps28.2.1 | omega, by first | exact hps28.2.2.1 | omega, hRD⟩⟩
      ·
        refine z_aload_n X (x := A 19) (show cdA 77 115 = some (.aload_n 0, 1, 0, 0, 0) from rfl) (List.Mem.head _) ?_
        refine s_getR X 19 (show cdA 77 116 = some (.getfield 31, 3, 7, 0, 0) from rfl) (by decide) rfl rfl ?_
        obtain ⟨tx127, q127, hR127, hS127⟩ := GT (127, [109, 111, 115, 116]) (by decide)
        refine w_ldcK X (show vk_R (kOwn k) 127 tx127 q127 (kS0 k) by rw [E.2.1, X.2.1.2.1]; exact hR127) (show decode (kCc k) 119 = .ok (.ldc 127, 2) by rw [X.2.1.1]; decide +kernel) ?_
        refine z_callV X 1 (rm := rmN 131) (As := [.ref q127]) (st := []) (show cdA 77 121 = some (.invokevirtual 76, 3, 131, 0, 0) from rfl) rfl (by decide) rfl (by rw [E.1, E.2.1, E.2.2.1]; exact c10_says3 G SF hS127 (by decide) Is13 JBYW_s13 JTKS_s13 (by first | exact oq_e7b9ecab ws13_2 ws13_4 p1 | omega)) ⟨by rw [E.2.2.2]; exact (show 11 + 1 ≤ (12 + (4 * (r + 1) + 1)) from oq_21805ac9 r), by rw [E.2.2.2]; exact (show 8 + (3 + 11) + 206 ≤ (500 + 45 * (4 * (r + 1) + 1)) from oq_1a54e9c9 r), by rw [E.2.2.2]; exact Nat.le_refl 0, by rw [E.2.2.2]; exact Nat.le_refl 0⟩ (Nat.le_of_ble_eq_true rfl) (fun vv s37 hq => ?_) (fun ee s37 hq => ?_)
        rotate_left
        · obtain ⟨Is37, Fs37, JBYW_s37, JTKS_s37, e38, hv, hrs37, hps37⟩ := hq; cases hv
        obtain ⟨Is37, Fs37, JBYW_s37, JTKS_s37, e38, hv, hrs37, hps37⟩ := hq
        cases hv
        have Gs37 := fm_ts Gs13 Fs37 (by decide) (by decide)
        have JBYW_s37 : BYW B N s37 := BYW_fm Fs37 (by decide) JBYW_s13
        have JTKS_s37 : TKS B N s37 := TKS_fm Fs37 (by decide) JTKS_s13
        have ws37_2 : iI s37 2 = iI s13 2 := fm_i Fs37 (by decide)
        have ws37_1 : iI s37 1 = iI s13 1 := fm_i Fs37 (by decide)
        have ws37_4 : iI s37 4 = iI s13 4 := fm_i Fs37 (by decide)
        have ws37_5 : iI s37 5 = iI s13 5 := fm_i Fs37 (by decide)
        have ws37_6 : iI s37 6 = iI s13 6 := fm_i Fs37 (by decide)
        have ws37_19 : iI s37 19 = iI s13 19 := fm_i Fs37 (by decide)
        have ws37_16 : iI s37 16 = iI s13 16 := fm_i Fs37 (by decide)
        have ws37_7 : iI s37 7 = iI s13 7 := fm_i Fs37 (by decide)
        have dls37 : DL s37 = DL s := (DL_fm Fs37 (by decide) (by decide)).trans dls13
        have hws37 : (e38 = 1 ∧ whV B N (iI s 4) = 267347) ∨ (e38 = 0 ∧ whV B N (iI s 4) ≠ 267347) := by have h := hps37; rw [show iI s13 4 = iI s 4 by omega, show whL [109, 111, 115, 116] 0 = 267347 by decide] at h; exact h
        show WS k 124 [(0, .ref (A 19))] [.int (Int32.ofInt e38)] (Wd A dT s37) 0 0
        refine z_if_eq X (t := 151) (show cdA 77 124 = some (.ifCond .eq 27, 3, 0, 0, 0) from rfl) (by decide) hrs37 (fun g39 => ?_) (fun g39 => ?_)
        ·
          refine z_aload_n X (x := A 19) (show cdA 77 151 = some (.aload_n 0, 1, 0, 0, 0) from rfl) (List.Mem.head _) ?_
          refine z_callV X 19 (rm := rmN 79) (As := []) (st := []) (show cdA 77 152 = some (.invokevirtual 132, 3, 79, 0, 0) from rfl) rfl (by decide) rfl (by rw [E.1, E.2.1, E.2.2.1]; exact c7_codeOfName3 G SF GT Is37 JBYW_s37 JTKS_s37 (by first | exact oq_4407eb3c ws37_1 ws37_2 ws13_1 ws13_2 p0 | omega) (by first | exact oq_4407eb3c ws37_2 ws37_4 ws13_2 ws13_4 p1 | omega)) ⟨by rw [E.2.2.2]; exact (show 12 + 1 ≤ (12 + (4 * (r + 1) + 1)) from oq_e4de711e r), by rw [E.2.2.2]; exact (show 8 + (1 + 11) + 228 ≤ (500 + 45 * (4 * (r + 1) + 1)) from oq_afe52482 r), by rw [E.2.2.2]; exact Nat.le_refl 0, by rw [E.2.2.2]; exact Nat.le_refl 0⟩ (Nat.le_of_ble_eq_true rfl) (fun vv s40 hq => ?_) (fun ee s40 hq => ?_)
          rotate_left
          · obtain ⟨Is40, Fs40, JBYW_s40, JTKS_s40, e41, hv, hrs40, hps40⟩ := hq; cases hv
          obtain ⟨Is40, Fs40, JBYW_s40, JTKS_s40, e41, hv, hrs40, hps40⟩ := hq
          cases hv
          have Gs40 := fm_ts Gs37 Fs40 (by decide) (by decide)
          have JBYW_s40 : BYW B N s40 := BYW_fm Fs40 (by decide) JBYW_s37
          have JTKS_s40 : TKS B N s40 := TKS_fm Fs40 (by decide) JTKS_s37
          have ws40_2 : iI s40 2 = iI s37 2 := fm_i Fs40 (by decide)
          have ws40_1 : iI s40 1 = iI s37 1 := fm_i Fs40 (by decide)
          have ws40_4 : iI s40 4 = iI s37 4 := fm_i Fs40 (by decide)
          have ws40_5 : iI s40 5 = iI s37 5 := fm_i Fs40 (by decide)
          have ws40_6 : iI s40 6 = iI s37 6 := fm_i Fs40 (by decide)
          have ws40_19 : iI s40 19 = iI s37 19 := fm_i Fs40 (by decide)
          have ws40_16 : iI s40 16 = iI s37 16 := fm_i Fs40 (by decide)
          have ws40_7 : iI s40 7 = iI s37 7 := fm_i Fs40 (by decide)
          have dls40 : DL s40 = DL s := (DL_fm Fs40 (by decide) (by decide)).trans dls37
          show WS k 155 [(0, .ref (A 19))] [.int (Int32.ofInt e41)] (Wd A dT s40) 0 0
          have hcn : (e41 = -20 ∧ nmC B N (iI s 4) = 0) ∨ (-7 ≤ e41 ∧ e41 ≤ -1 ∧ nmC B N (iI s 4) = e41) := by have h := hps40; rw [show iI s37 4 = (iI s 4) by omega] at h; exact h
          refine z_store_n X (lv' := [(1, .int (Int32.ofInt e41)), (0, .ref (A 19))]) (show cdA 77 155 = some (.istore_n 1, 1, 0, 0, 0) from rfl) (by decide) (fun _ h => h) ?_
          refine z_load_n X (x := e41) (show cdA 77 156 = some (.iload_n 1, 1, 0, 0, 0) from rfl) (List.Mem.head _) ?_
          refine z_bipush X (show cdA 77 157 = some (.bipush (-20), 2, 0, 0, (-20)) from rfl) ?_
          refine z_icmp_ne X (t := 171) (show cdA 77 159 = some (.if_icmp .ne 12, 3, 1, 0, 0) from rfl) (by decide) hrs40 (by decide) (fun g42 => ?_) (fun g42 => ?_)
          ·
            refine z_aload_n X (x := A 19) (show cdA 77 171 = some (.aload_n 0, 1, 0, 0, 0) from rfl) (List.Mem.tail _ (List.Mem.head _)) ?_
            refine z_load_n X (x := e41) (show cdA 77 172 = some (.iload_n 1, 1, 0, 0, 0) from rfl) (List.Mem.head _) ?_
            have hwn := wh_let (nm_wh (show nmC B N (iI s 4) ≠ 0 by omega)).1
            have hk3 : iI s 5 = -3 := Classical.byContradiction (fun q => (nm_wh (show nmC B N (iI s 4) ≠ 0 by omega)).1 (hwd.2 q))
            have ha3 := (hwd.1 hk3).1
            refine z_callV X 19 (rm := rmN 82) (As := [.int (Int32.ofInt e41)]) (st := []) (show cdA 77 173 = some (.invokevirtual 103, 3, 82, 0, 0) from rfl) rfl (by decide) rfl (by rw [E.1, E.2.1, E.2.2.1]; exact c7_put3 G Is40 (by first | exact ⟨oq_2da1d2e6 hcn, oq_ff24c752 hcn⟩ | omega) (by omega)) ⟨by rw [E.2.2.2]; exact (show 6 + 1 ≤ (12 + (4 * (r + 1) + 1)) from oq_76ff689a r), by rw [E.2.2.2]; exact (show 8 + (2 + 11) + 100 ≤ (500 + 45 * (4 * (r + 1) + 1)) from oq_0822d50d r), by rw [E.2.2.2]; exact Nat.le_refl 0, by rw [E.2.2.2]; exact Nat.le_refl 0⟩ (Nat.le_of_ble_eq_true rfl) (fun vv s43 hq => ?_) (fun ee s43 hq => ?_)
            rotate_left
            · obtain ⟨Is43, Fs43, hv, hps43⟩ := hq; cases hv
            obtain ⟨Is43, Fs43, hv, hps43⟩ := hq
            cases hv
            have Gs43 := fm_ts Gs40 Fs43 (by decide) (by decide)
            have JBYW_s43 : BYW B N s43 := BYW_fm Fs43 (by decide) JBYW_s40
            have JTKS_s43 : TKS B N s43 := TKS_fm Fs43 (by decide) JTKS_s40
            have ws43_2 : iI s43 2 = iI s40 2 := fm_i Fs43 (by decide)
            have ws43_1 : iI s43 1 = iI s40 1 := fm_i Fs43 (by decide)
            have ws43_4 : iI s43 4 = iI s40 4 := fm_i Fs43 (by decide)
            have ws43_5 : iI s43 5 = iI s40 5 := fm_i Fs43 (by decide)
            have ws43_6 : iI s43 6 = iI s40 6 := fm_i Fs43 (by decide)
            have ws43_19 : iI s43 19 = iI s40 19 := fm_i Fs43 (by decide)
            have b45 : (0 : Int) ≤ iI s43 16 ∧ iI s43 16 ≤ 200 := Is43.1 16
            have ws43_7 : iI s43 7 = iI s40 7 := fm_i Fs43 (by decide)
            have dls43 : DL s43 = DL s ++ [e41] := by rw [hps43.2, dls40]
            show WS k 176 [(1, .int (Int32.ofInt e41)), (0, .ref (A 19))] [] (Wd A dT s43) 0 0
            refine z_aload_n X (x := A 19) (show cdA 77 176 = some (.aload_n 0, 1, 0, 0, 0) from rfl) (List.Mem.tail _ (List.Mem.head _)) ?_
            refine s_getR X 19 (show cdA 77 177 = some (.getfield 31, 3, 7, 0, 0) from rfl) (by decide) rfl rfl ?_
            refine z_callV X 1 (rm := rmN 129) (As := []) (st := []) (show cdA 77 180 = some (.invokevirtual 85, 3, 129, 0, 0) from rfl) rfl (by decide) rfl (by rw [E.1, E.2.1, E.2.2.1]; exact c10_step3 G Is43 JBYW_s43 (by first | exact oq_25674cec ws43_1 ws43_2 ws40_1 ws40_2 ws37_1 ws37_2 ws13_1 ws13_2 p0 | omega)) ⟨by rw [E.2.2.2]; exact (show 7 + 1 ≤ (12 + (4 * (r + 1) + 1)) from oq_9b435bb4 r), by rw [E.2.2.2]; exact (show 8 + (1 + 11) + 121 ≤ (500 + 45 * (4 * (r + 1) + 1)) from oq_f85a7cd7 r), by rw [E.2.2.2]; exact Nat.le_refl 0, by rw [E.2.2.2]; exact Nat.le_refl 0⟩ (Nat.le_of_ble_eq_true rfl) (fun vv s46 hq => ?_) (fun ee s46 hq => ?_)
            rotate_left
            · obtain ⟨Is46, Fs46, JBYW_s46, JTKS_s46, hv, hps46⟩ := hq; cases hv
            obtain ⟨Is46, Fs46, JBYW_s46, JTKS_s46, hv, hps46⟩ := hq
            cases hv
            have Gs46 := fm_ts Gs43 Fs46 (by decide) (by decide)
            have JBYW_s46 : BYW B N s46 := BYW_fm Fs46 (by decide) JBYW_s43
            have b48 : (0 : Int) ≤ iI s46 2 ∧ iI s46 2 ≤ 200 := Is46.1 2
            have ws46_1 : iI s46 1 = iI s43 1 := fm_i Fs46 (by decide)
            have b49 : (0 : Int) ≤ iI s46 4 ∧ iI s46 4 ≤ 200 := Is46.1 4
            have b50 : ((-3) : Int) ≤ iI s46 5 ∧ iI s46 5 ≤ 255 := Is46.1 5
            have b51 : (0 : Int) ≤ iI s46 6 ∧ iI s46 6 ≤ 100000 := Is46.1 6
            have ws46_19 : iI s46 19 = iI s43 19 := fm_i Fs46 (by decide)
            have ws46_16 : iI s46 16 = iI s43 16 := fm_i Fs46 (by decide)
            have ws46_7 : iI s46 7 = iI s43 7 := fm_i Fs46 (by decide)
            have dls46 : DL s46 = DL s ++ [e41] := (DL_fm Fs46 (by decide) (by decide)).trans dls43
            show WS k 183 [(1, .int (Int32.ofInt e41)), (0, .ref (A 19))] [] (Wd A dT s46) 0 0
            refine z_const X (show cdA 77 183 = some (.iconst 1, 1, 0, 0, 0) from rfl) ?_
            have hRD : RDc B N 0 (iI s 4) (iI s 19) (DL s) s46 1 := rd_ok (pu_nam (hdg.2 (by omega)) (hc0.2 (by omega)) (by omega) (by omega)) (by rw [hps46.2.2.1, show iI s43 2 = wdE B N (iI s 4) by omega]) (by rw [dls46, show e41 = nmC B N (iI s 4) by omega])
            exact w_iret X.1 q hRt (nar_ret (by first | exact Or.inr (by decide) | omega)) (ax_d X (show cdA 77 184 = some (.ireturn, 1, 0, 0, 0) from rfl)) (Nat.zero_le _) (Nat.zero_le _) ⟨_, rfl, Is46, Gs46, JBYW_s46, JTKS_s46, 1, rfl, (by decide), ⟨rd_post hRD rfl (by omega) (by first | exact b7.1 | omega) (by first | exact oq_e4757433 ws46_16 b45.1 | omega) (fun h9 => by first | exact oq_469c7eaf ws46_19 ws43_19 ws40_19 ws37_19 ws13_19 | omega), by first | exact hps46.1 | omega, by first | exact hps46.2.1 | omega, hRD⟩⟩
          ·
            refine z_aload_n X (x := A 19) (show cdA 77 162 = some (.aload_n 0, 1, 0, 0, 0) from rfl) (List.Mem.tail _ (List.Mem.head _)) ?_
            refine s_getR X 19 (show cdA 77 163 = some (.getfield 31, 3, 7, 0, 0) from rfl) (by decide) rfl rfl ?_
            refine z_const X (show cdA 77 166 = some (.iconst 1, 1, 0, 0, 0) from rfl) ?_
            refine z_callV X 1 (rm := rmN 132) (As := [.int (Int32.ofInt 1)]) (st := []) (show cdA 77 167 = some (.invokevirtual 82, 3, 132, 0, 0) from rfl) rfl (by decide) rfl (by rw [E.1, E.2.1, E.2.2.1]; exact c10_refuse3 G Is40 (by first | exact ⟨by decide, by decide⟩ | omega)) ⟨by rw [E.2.2.2]; exact (show 7 + 1 ≤ (12 + (4 * (r + 1) + 1)) from oq_9b435bb4 r), by rw [E.2.2.2]; exact (show 8 + (2 + 11) + 122 ≤ (500 + 45 * (4 * (r + 1) + 1)) from oq_1c2c1baf r), by rw [E.2.2.2]; exact Nat.le_refl 0, by rw [E.2.2.2]; exact Nat.le_refl 0⟩ (Nat.le_of_ble_eq_true rfl) (fun vv s52 hq => ?_) (fun ee s52 hq => ?_)
            rotate_left
            · obtain ⟨Is52, Fs52, e53, hv, hrs52, hps52⟩ := hq; cases hv
            obtain ⟨Is52, Fs52, e53, hv, hrs52, hps52⟩ := hq
            cases hv
            have Gs52 := fm_ts Gs40 Fs52 (by decide) (by decide)
            have JBYW_s52 : BYW B N s52 := BYW_fm Fs52 (by decide) JBYW_s40
            have JTKS_s52 : TKS B N s52 := TKS_fm Fs52 (by decide) JTKS_s40
            have ws52_2 : iI s52 2 = iI s40 2 := fm_i Fs52 (by decide)
            have ws52_1 : iI s52 1 = iI s40 1 := fm_i Fs52 (by decide)
            have ws52_4 : iI s52 4 = iI s40 4 := fm_i Fs52 (by decide)
            have ws52_5 : iI s52 5 = iI s40 5 := fm_i Fs52 (by decide)
            have ws52_6 : iI s52 6 = iI s40 6 := fm_i Fs52 (by decide)
            have ws52_19 : iI s52 19 = iI s40 19 := fm_i Fs52 (by decide)
            have ws52_16 : iI s52 16 = iI s40 16 := fm_i Fs52 (by decide)
            have b54 : (0 : Int) ≤ iI s52 7 ∧ iI s52 7 ≤ 9 := Is52.1 7
            have dls52 : DL s52 = DL s := (DL_fm Fs52 (by decide) (by decide)).trans dls40
            show WS k 170 [(1, .int (Int32.ofInt e41)), (0, .ref (A 19))] [.int (Int32.ofInt e53)] (Wd A dT s52) 0 0
            have hRD : RDc B N 0 (iI s 4) (iI s 19) (DL s) s52 e53 := by rw [show e53 = 0 by omega]; exact rd_no (pu_no (hdg.2 (by omega)) (hc0.2 (by omega)) (by omega) (by omega)) (by decide) (by omega)
            exact w_iret X.1 q hRt (nar_ret (by first | exact Or.inl (hps52.1) | omega)) (ax_d X (show cdA 77 170 = some (.ireturn, 1, 0, 0, 0) from rfl)) (Nat.zero_le _) (Nat.zero_le _) ⟨_, rfl, Is52, Gs52, JBYW_s52, JTKS_s52, e53, rfl, hrs52, ⟨rd_post hRD rfl (by omega) (by first | exact b7.1 | omega) (by first | exact oq_ea8cf281 ws52_16 ws40_16 ws37_16 ws13_16 b7.1 | omega) (fun h9 => by first | exact oq_ac0e91e1 ws52_19 ws40_19 ws37_19 ws13_19 | omega), by first | exact oq_25674cec ws52_1 ws52_2 ws40_1 ws40_2 ws37_1 ws37_2 ws13_1 ws13_2 p0 | omega, by first | exact oq_969cff60 ws52_4 ws52_2 ws40_4 ws40_2 ws37_4 ws37_2 ws13_4 ws13_2 p1 | omega, hRD⟩⟩
        ·
          refine z_aload_n X (x := A 19) (show cdA 77 127 = some (.aload_n 0, 1, 0, 0, 0) from rfl) (List.Mem.head _) ?_
          refine z_aload_n X (x := A 19) (show cdA 77 128 = some (.aload_n 0, 1, 0, 0, 0) from rfl) (List.Mem.head _) ?_
          refine s_getR X 19 (show cdA 77 129 = some (.getfield 31, 3, 7, 0, 0) from rfl) (by decide) rfl rfl ?_
          obtain ⟨tx125, q125, hR125, hS125⟩ := GT (125, [108, 101, 97, 115, 116]) (by decide)
          refine w_ldcK X (show vk_R (kOwn k) 125 tx125 q125 (kS0 k) by rw [E.2.1, X.2.1.2.1]; exact hR125) (show decode (kCc k) 132 = .ok (.ldc 125, 2) by rw [X.2.1.1]; decide +kernel) ?_
          refine z_callV X 1 (rm := rmN 131) (As := [.ref q125]) (st := [.ref (A 19)]) (show cdA 77 134 = some (.invokevirtual 76, 3, 131, 0, 0) from rfl) rfl (by decide) rfl (by rw [E.1, E.2.1, E.2.2.1]; exact c10_says3 G SF hS125 (by decide) Is37 JBYW_s37 JTKS_s37 (by first | exact oq_4407eb3c ws37_2 ws37_4 ws13_2 ws13_4 p1 | omega)) ⟨by rw [E.2.2.2]; exact (show 11 + 1 ≤ (12 + (4 * (r + 1) + 1)) from oq_21805ac9 r), by rw [E.2.2.2]; exact (show 8 + (3 + 11) + 206 ≤ (500 + 45 * (4 * (r + 1) + 1)) from oq_1a54e9c9 r), by rw [E.2.2.2]; exact Nat.le_refl 0, by rw [E.2.2.2]; exact Nat.le_refl 0⟩ (Nat.le_of_ble_eq_true rfl) (fun vv s55 hq => ?_) (fun ee s55 hq => ?_)
          rotate_left
          · obtain ⟨Is55, Fs55, JBYW_s55, JTKS_s55, e56, hv, hrs55, hps55⟩ := hq; cases hv
          obtain ⟨Is55, Fs55, JBYW_s55, JTKS_s55, e56, hv, hrs55, hps55⟩ := hq
          cases hv
          have Gs55 := fm_ts Gs37 Fs55 (by decide) (by decide)
          have JBYW_s55 : BYW B N s55 := BYW_fm Fs55 (by decide) JBYW_s37
          have JTKS_s55 : TKS B N s55 := TKS_fm Fs55 (by decide) JTKS_s37
          have ws55_2 : iI s55 2 = iI s37 2 := fm_i Fs55 (by decide)
          have ws55_1 : iI s55 1 = iI s37 1 := fm_i Fs55 (by decide)
          have ws55_4 : iI s55 4 = iI s37 4 := fm_i Fs55 (by decide)
          have ws55_5 : iI s55 5 = iI s37 5 := fm_i Fs55 (by decide)
          have ws55_6 : iI s55 6 = iI s37 6 := fm_i Fs55 (by decide)
          have ws55_19 : iI s55 19 = iI s37 19 := fm_i Fs55 (by decide)
          have ws55_16 : iI s55 16 = iI s37 16 := fm_i Fs55 (by decide)
          have ws55_7 : iI s55 7 = iI s37 7 := fm_i Fs55 (by decide)
          have dls55 : DL s55 = DL s := (DL_fm Fs55 (by decide) (by decide)).trans dls37
          have hws55 : (e56 = 1 ∧ whV B N (iI s 4) = 6476969) ∨ (e56 = 0 ∧ whV B N (iI s 4) ≠ 6476969) := by have h := hps55; rw [show iI s37 4 = iI s 4 by omega, show whL [108, 101, 97, 115, 116] 0 = 6476969 by decide] at h; exact h
          show WS k 137 [(0, .ref (A 19))] [.int (Int32.ofInt e56), .ref (A 19)] (Wd A dT s55) 0 0
          refine z_if_eq X (t := 145) (show cdA 77 137 = some (.ifCond .eq 8, 3, 0, 0, 0) from rfl) (by decide) hrs55 (fun g57 => ?_) (fun g57 => ?_)
          ·
            refine z_bipush X (show cdA 77 145 = some (.bipush (-14), 2, 0, 0, (-14)) from rfl) ?_
            have hx9 : whV B N (iI s55 4) = whV B N (iI s 4) := by rw [show iI s55 4 = iI s 4 by omega]
            refine z_callV X 19 (rm := (rkR (4 * (r + 1)))) (As := [.int (Int32.ofInt (-14))]) (st := []) (show cdA 77 147 = some (.invokevirtual 129, 3, 78, 0, 0) from rfl) rfl (by decide) rfl (by rw [E.1, E.2.1, E.2.2.1]; exact hT Is55 JBYW_s55 JTKS_s55 (by first | exact oq_d81af618 hx9 g39 hws37 | omega) (by first | exact oq_72ebe5a4 ws55_1 ws55_2 ws37_1 ws37_2 ws13_1 ws13_2 p0 | omega) (by first | exact oq_7f1a346e ws55_4 ws55_2 ws37_4 ws37_2 ws13_4 ws13_2 p1 | omega) (by first | exact oq_3ee132da p2 ws55_19 ws13_19 ws37_19 | omega) (by first | exact oq_7f1a346e ws55_16 ws55_4 ws37_16 ws37_4 ws13_16 ws13_4 p3 | omega)) ⟨by rw [E.2.2.2]; exact (show (12 + (4 * (r + 1))) + 1 ≤ (12 + (4 * (r + 1) + 1)) from oq_183d1057 r), by rw [E.2.2.2]; exact (show 8 + (2 + 11) + (500 + 45 * (4 * (r + 1))) ≤ (500 + 45 * (4 * (r + 1) + 1)) from oq_ce6206a2 r), by rw [E.2.2.2]; exact Nat.le_refl 0, by rw [E.2.2.2]; exact Nat.le_refl 0⟩ (Nat.le_of_ble_eq_true rfl) (fun vv s58 hq => ?_) (fun ee s58 hq => ?_)
            rotate_left
            · obtain ⟨Is58, Fs58, JBYW_s58, JTKS_s58, e59, hv, hrs58, hps58⟩ := hq; cases hv
            obtain ⟨Is58, Fs58, JBYW_s58, JTKS_s58, e59, hv, hrs58, hps58⟩ := hq
            cases hv
            have Gs58 := fm_ts Gs55 Fs58 (by decide) (by decide)
            have JBYW_s58 : BYW B N s58 := BYW_fm Fs58 (by decide) JBYW_s55
            have b60 : (0 : Int) ≤ iI s58 2 ∧ iI s58 2 ≤ 200 := Is58.1 2
            have ws58_1 : iI s58 1 = iI s55 1 := fm_i Fs58 (by decide)
            have b61 : (0 : Int) ≤ iI s58 4 ∧ iI s58 4 ≤ 200 := Is58.1 4
            have b62 : ((-3) : Int) ≤ iI s58 5 ∧ iI s58 5 ≤ 255 := Is58.1 5
            have b63 : (0 : Int) ≤ iI s58 6 ∧ iI s58 6 ≤ 100000 := Is58.1 6
            have b64 : (0 : Int) ≤ iI s58 19 ∧ iI s58 19 ≤ 6 := Is58.1 19
            have b65 : (0 : Int) ≤ iI s58 16 ∧ iI s58 16 ≤ 200 := Is58.1 16
            have b66 : (0 : Int) ≤ iI s58 7 ∧ iI s58 7 ≤ 9 := Is58.1 7
            show WS k 150 [(0, .ref (A 19))] [.int (Int32.ofInt e59)] (Wd A dT s58) 0 0
            have hRD : RDc B N 0 (iI s 4) (iI s 19) (DL s) s58 e59 := by have h := hps58.2.2.2; rw [show iI s55 4 = iI s 4 by omega, show iI s55 19 = iI s 19 by omega, dls55] at h; exact h
            exact w_iret X.1 q hRt (nar_ret (by first | exact oq_a0a77773 hps58.1 | omega)) (ax_d X (show cdA 77 150 = some (.ireturn, 1, 0, 0, 0) from rfl)) (Nat.zero_le _) (Nat.zero_le _) ⟨_, rfl, Is58, Gs58, JBYW_s58, JTKS_s58, e59, rfl, hrs58, ⟨rd_post hRD rfl (by omega) (by first | exact b7.1 | omega) (by first | exact b65.1 | omega) (fun h9 => by omega), by first | exact hps58.2.1 | omega, by first | exact hps58.2.2.1 | omega, hRD⟩⟩
          ·
            refine z_bipush X (show cdA 77 140 = some (.bipush (-13), 2, 0, 0, (-13)) from rfl) ?_
            refine z_goto X (t := 147) (show cdA 77 142 = some (.goto 5, 3, 0, 0, 0) from rfl) (by decide) ?_
            have hx9 : whV B N (iI s55 4) = whV B N (iI s 4) := by rw [show iI s55 4 = iI s 4 by omega]
            refine z_callV X 19 (rm := (rkR (4 * (r + 1)))) (As := [.int (Int32.ofInt (-13))]) (st := []) (show cdA 77 147 = some (.invokevirtual 129, 3, 78, 0, 0) from rfl) rfl (by decide) rfl (by rw [E.1, E.2.1, E.2.2.1]; exact hT Is55 JBYW_s55 JTKS_s55 (by first | exact oq_48540d0e g57 hws55 g39 hws37 | omega) (by first | exact oq_72ebe5a4 ws55_1 ws55_2 ws37_1 ws37_2 ws13_1 ws13_2 p0 | omega) (by first | exact oq_7f1a346e ws55_4 ws55_2 ws37_4 ws37_2 ws13_4 ws13_2 p1 | omega) (by first | exact oq_3ee132da p2 ws55_19 ws13_19 ws37_19 | omega) (by first | exact oq_7f1a346e ws55_16 ws55_4 ws37_16 ws37_4 ws13_16 ws13_4 p3 | omega)) ⟨by rw [E.2.2.2]; exact (show (12 + (4 * (r + 1))) + 1 ≤ (12 + (4 * (r + 1) + 1)) from oq_183d1057 r), by rw [E.2.2.2]; exact (show 8 + (2 + 11) + (500 + 45 * (4 * (r + 1))) ≤ (500 + 45 * (4 * (r + 1) + 1)) from oq_ce6206a2 r), by rw [E.2.2.2]; exact Nat.le_refl 0, by rw [E.2.2.2]; exact Nat.le_refl 0⟩ (Nat.le_of_ble_eq_true rfl) (fun vv s67 hq => ?_) (fun ee s67 hq => ?_)
            rotate_left
            · obtain ⟨Is67, Fs67, JBYW_s67, JTKS_s67, e68, hv, hrs67, hps67⟩ := hq; cases hv
            obtain ⟨Is67, Fs67, JBYW_s67, JTKS_s67, e68, hv, hrs67, hps67⟩ := hq
            cases hv
            have Gs67 := fm_ts Gs55 Fs67 (by decide) (by decide)
            have JBYW_s67 : BYW B N s67 := BYW_fm Fs67 (by decide) JBYW_s55
            have b69 : (0 : Int) ≤ iI s67 2 ∧ iI s67 2 ≤ 200 := Is67.1 2
            have ws67_1 : iI s67 1 = iI s55 1 := fm_i Fs67 (by decide)
            have b70 : (0 : Int) ≤ iI s67 4 ∧ iI s67 4 ≤ 200 := Is67.1 4
            have b71 : ((-3) : Int) ≤ iI s67 5 ∧ iI s67 5 ≤ 255 := Is67.1 5
            have b72 : (0 : Int) ≤ iI s67 6 ∧ iI s67 6 ≤ 100000 := Is67.1 6
            have b73 : (0 : Int) ≤ iI s67 19 ∧ iI s67 19 ≤ 6 := Is67.1 19
            have b74 : (0 : Int) ≤ iI s67 16 ∧ iI s67 16 ≤ 200 := Is67.1 16
            have b75 : (0 : Int) ≤ iI s67 7 ∧ iI s67 7 ≤ 9 := Is67.1 7
            show WS k 150 [(0, .ref (A 19))] [.int (Int32.ofInt e68)] (Wd A dT s67) 0 0
            have hRD : RDc B N 0 (iI s 4) (iI s 19) (DL s) s67 e68 := by have h := hps67.2.2.2; rw [show iI s55 4 = iI s 4 by omega, show iI s55 19 = iI s 19 by omega, dls55] at h; exact h
            exact w_iret X.1 q hRt (nar_ret (by first | exact oq_a2ffbee5 g57 hws55 g39 hws37 | omega)) (ax_d X (show cdA 77 150 = some (.ireturn, 1, 0, 0, 0) from rfl)) (Nat.zero_le _) (Nat.zero_le _) ⟨_, rfl, Is67, Gs67, JBYW_s67, JTKS_s67, e68, rfl, hrs67, ⟨rd_post hRD rfl (by first | exact oq_e61be49c g57 hws55 g39 hws37 | omega) (by first | exact b7.1 | omega) (by first | exact b74.1 | omega) (fun h9 => by first | exact oq_fa1d1fac g57 hws55 g39 hws37 | omega), by first | exact hps67.2.1 | omega, by first | exact hps67.2.2.1 | omega, hRD⟩⟩
    ·
      have hC := (hc0.1 (by omega)).1
      have hA := (hc0.1 (by omega)).2
      refine z_aload_n X (x := A 19) (show cdA 77 66 = some (.aload_n 0, 1, 0, 0, 0) from rfl) (List.Mem.head _) ?_
      refine z_callV X 19 (rm := rmN 80) (As := []) (st := []) (show cdA 77 67 = some (.invokevirtual 113, 3, 80, 0, 0) from rfl) rfl (by decide) rfl (by rw [E.1, E.2.1, E.2.2.1]; exact c7_enter3 G I jBYW jTKS (by first | exact p0 | omega) (by first | exact p1 | omega)) ⟨by rw [E.2.2.2]; exact (show 8 + 1 ≤ (12 + (4 * (r + 1) + 1)) from oq_8e0cc864 r), by rw [E.2.2.2]; exact (show 8 + (1 + 11) + 143 ≤ (500 + 45 * (4 * (r + 1) + 1)) from oq_333da77b r), by rw [E.2.2.2]; exact Nat.le_refl 0, by rw [E.2.2.2]; exact Nat.le_refl 0⟩ (Nat.le_of_ble_eq_true rfl) (fun vv s76 hq => ?_) (fun ee s76 hq => ?_)
      rotate_left
      · obtain ⟨Is76, Fs76, JBYW_s76, JTKS_s76, e77, hv, hrs76, hps76⟩ := hq; cases hv
      obtain ⟨Is76, Fs76, JBYW_s76, JTKS_s76, e77, hv, hrs76, hps76⟩ := hq
      cases hv
      have Gs76 := fm_ts F Fs76 (by decide) (by decide)
      have JBYW_s76 : BYW B N s76 := BYW_fm Fs76 (by decide) jBYW
      have b78 : (0 : Int) ≤ iI s76 2 ∧ iI s76 2 ≤ 200 := Is76.1 2
      have ws76_1 : iI s76 1 = iI s 1 := fm_i Fs76 (by decide)
      have b79 : (0 : Int) ≤ iI s76 4 ∧ iI s76 4 ≤ 200 := Is76.1 4
      have b80 : ((-3) : Int) ≤ iI s76 5 ∧ iI s76 5 ≤ 255 := Is76.1 5
      have b81 : (0 : Int) ≤ iI s76 6 ∧ iI s76 6 ≤ 100000 := Is76.1 6
      have b82 : (0 : Int) ≤ iI s76 19 ∧ iI s76 19 ≤ 6 := Is76.1 19
      have ws76_16 : iI s76 16 = iI s 16 := fm_i Fs76 (by decide)
      have b83 : (0 : Int) ≤ iI s76 7 ∧ iI s76 7 ≤ 9 := Is76.1 7
      have dls76 : DL s76 = DL s := (DL_fm Fs76 (by decide) (by decide)).trans rfl
      show WS k 70 [(0, .ref (A 19))] [.int (Int32.ofInt e77)] (Wd A dT s76) 0 0
      refine z_if_eq X (t := 89) (show cdA 77 70 = some (.ifCond .eq 19, 3, 0, 0, 0) from rfl) (by decide) hrs76 (fun g84 => ?_) (fun g84 => ?_)
      ·
        refine z_const X (show cdA 77 89 = some (.iconst 0, 1, 0, 0, 0) from rfl) ?_
        have hRD : RDc B N 0 (iI s 4) (iI s 19) (DL s) s76 0 := rd_no (pu_p3 hC (by omega)) (by decide) (by omega)
        exact w_iret X.1 q hRt (nar_ret (by first | exact Or.inl (by decide) | omega)) (ax_d X (show cdA 77 90 = some (.ireturn, 1, 0, 0, 0) from rfl)) (Nat.zero_le _) (Nat.zero_le _) ⟨_, rfl, Is76, Gs76, JBYW_s76, JTKS_s76, 0, rfl, (by decide), ⟨rd_post hRD rfl (by omega) (by first | exact b7.1 | omega) (by first | exact oq_e4757433 ws76_16 b7.1 | omega) (fun h9 => absurd rfl h9), by first | exact hps76.2.1 | omega, by first | exact hps76.2.2 | omega, hRD⟩⟩
      ·
        have hs2 : iI s76 4 = sk B N ((iI s 4) + 1) := by exact Or.elim hps76.1 (fun q => by omega) (fun q => by rw [q.2.2.2.1, show iI s 2 = (iI s 4) + 1 by omega])
        refine z_aload_n X (x := A 19) (show cdA 77 73 = some (.aload_n 0, 1, 0, 0, 0) from rfl) (List.Mem.head _) ?_
        refine z_callV X 19 (rm := (rkR (4 * (r) + 3))) (As := []) (st := []) (show cdA 77 74 = some (.invokevirtual 88, 3, 75, 0, 0) from rfl) rfl (by decide) rfl (by rw [E.1, E.2.1, E.2.2.1]; exact hS Is76 JBYW_s76 JTKS_s76 (by first | exact hps76.2.1 | omega) (by first | exact hps76.2.2 | omega) (by first | exact oq_b1d446ca g84 hps76.1 p2 | omega) (by first | exact oq_ef580355 g84 ws76_16 hps76.1 p3 p1 | omega)) ⟨by rw [E.2.2.2]; exact (show (12 + (4 * (r) + 3)) + 1 ≤ (12 + (4 * (r + 1) + 1)) from oq_40927492 r), by rw [E.2.2.2]; exact (show 8 + (3 + 11) + (500 + 45 * (4 * (r) + 3)) ≤ (500 + 45 * (4 * (r + 1) + 1)) from oq_c8d9c730 r), by rw [E.2.2.2]; exact Nat.le_refl 0, by rw [E.2.2.2]; exact Nat.le_refl 0⟩ (Nat.le_of_ble_eq_true rfl) (fun vv s85 hq => ?_) (fun ee s85 hq => ?_)
        rotate_left
        · obtain ⟨Is85, Fs85, JBYW_s85, JTKS_s85, e86, hv, hrs85, hps85⟩ := hq; cases hv
        obtain ⟨Is85, Fs85, JBYW_s85, JTKS_s85, e86, hv, hrs85, hps85⟩ := hq
        cases hv
        have Gs85 := fm_ts Gs76 Fs85 (by decide) (by decide)
        have JBYW_s85 : BYW B N s85 := BYW_fm Fs85 (by decide) JBYW_s76
        have b87 : (0 : Int) ≤ iI s85 2 ∧ iI s85 2 ≤ 200 := Is85.1 2
        have ws85_1 : iI s85 1 = iI s76 1 := fm_i Fs85 (by decide)
        have b88 : (0 : Int) ≤ iI s85 4 ∧ iI s85 4 ≤ 200 := Is85.1 4
        have b89 : ((-3) : Int) ≤ iI s85 5 ∧ iI s85 5 ≤ 255 := Is85.1 5
        have b90 : (0 : Int) ≤ iI s85 6 ∧ iI s85 6 ≤ 100000 := Is85.1 6
        have b91 : (0 : Int) ≤ iI s85 19 ∧ iI s85 19 ≤ 6 := Is85.1 19
        have b92 : (0 : Int) ≤ iI s85 16 ∧ iI s85 16 ≤ 200 := Is85.1 16
        have b93 : (0 : Int) ≤ iI s85 7 ∧ iI s85 7 ≤ 9 := Is85.1 7
        show WS k 77 [(0, .ref (A 19))] [.int (Int32.ofInt e86)] (Wd A dT s85) 0 0
        refine z_if_eq X (t := 89) (show cdA 77 77 = some (.ifCond .eq 12, 3, 0, 0, 0) from rfl) (by decide) hrs85 (fun g94 => ?_) (fun g94 => ?_)
        ·
          refine z_const X (show cdA 77 89 = some (.iconst 0, 1, 0, 0, 0) from rfl) ?_
          have hRD : RDc B N 0 (iI s 4) (iI s 19) (DL s) s85 0 := rd_bad (by have h := hps85.2.2.2; rw [show iI s76 4 = sk B N ((iI s 4) + 1) by first | exact hs2 | omega, show iI s76 19 = iI s 19 + 1 by first | exact oq_7736c826 g84 hps76.1 | omega] at h; exact h) (by omega) (by omega) (fun r h z => pu_pb hC (by omega) h z)
          exact w_iret X.1 q hRt (nar_ret (by first | exact Or.inl (by decide) | omega)) (ax_d X (show cdA 77 90 = some (.ireturn, 1, 0, 0, 0) from rfl)) (Nat.zero_le _) (Nat.zero_le _) ⟨_, rfl, Is85, Gs85, JBYW_s85, JTKS_s85, 0, rfl, (by decide), ⟨rd_post hRD rfl (by omega) (by first | exact b7.1 | omega) (by first | exact b92.1 | omega) (fun h9 => absurd rfl h9), by first | exact hps85.2.1 | omega, by first | exact hps85.2.2.1 | omega, hRD⟩⟩
        ·
          refine z_aload_n X (x := A 19) (show cdA 77 80 = some (.aload_n 0, 1, 0, 0, 0) from rfl) (List.Mem.head _) ?_
          refine z_bipush X (show cdA 77 81 = some (.bipush 41, 2, 0, 0, 41) from rfl) ?_
          refine z_callV X 19 (rm := rmN 81) (As := [.int (Int32.ofInt 41)]) (st := []) (show cdA 77 83 = some (.invokevirtual 95, 3, 81, 0, 0) from rfl) rfl (by decide) rfl (by rw [E.1, E.2.1, E.2.2.1]; exact c7_pass3 G Is85 JBYW_s85 JTKS_s85 (by first | exact ⟨by decide, by decide⟩ | omega) (by first | exact Or.inl (by decide) | omega) (by first | exact Or.inl (by decide) | omega) (by first | exact hps85.2.1 | omega) (by first | exact hps85.2.2.1 | omega)) ⟨by rw [E.2.2.2]; exact (show 8 + 1 ≤ (12 + (4 * (r + 1) + 1)) from oq_8e0cc864 r), by rw [E.2.2.2]; exact (show 8 + (2 + 11) + 143 ≤ (500 + 45 * (4 * (r + 1) + 1)) from oq_46451eae r), by rw [E.2.2.2]; exact Nat.le_refl 0, by rw [E.2.2.2]; exact Nat.le_refl 0⟩ (Nat.le_of_ble_eq_true rfl) (fun vv s95 hq => ?_) (fun ee s95 hq => ?_)
          rotate_left
          · obtain ⟨Is95, Fs95, JBYW_s95, JTKS_s95, e96, hv, hrs95, hps95⟩ := hq; cases hv
          obtain ⟨Is95, Fs95, JBYW_s95, JTKS_s95, e96, hv, hrs95, hps95⟩ := hq
          cases hv
          have Gs95 := fm_ts Gs85 Fs95 (by decide) (by decide)
          have JBYW_s95 : BYW B N s95 := BYW_fm Fs95 (by decide) JBYW_s85
          have b97 : (0 : Int) ≤ iI s95 2 ∧ iI s95 2 ≤ 200 := Is95.1 2
          have ws95_1 : iI s95 1 = iI s85 1 := fm_i Fs95 (by decide)
          have b98 : (0 : Int) ≤ iI s95 4 ∧ iI s95 4 ≤ 200 := Is95.1 4
          have b99 : ((-3) : Int) ≤ iI s95 5 ∧ iI s95 5 ≤ 255 := Is95.1 5
          have b100 : (0 : Int) ≤ iI s95 6 ∧ iI s95 6 ≤ 100000 := Is95.1 6
          have ws95_19 : iI s95 19 = iI s85 19 := fm_i Fs95 (by decide)
          have ws95_16 : iI s95 16 = iI s85 16 := fm_i Fs95 (by decide)
          have b101 : (0 : Int) ≤ iI s95 7 ∧ iI s95 7 ≤ 9 := Is95.1 7
          have dls95 : DL s95 = DL s85 := (DL_fm Fs95 (by decide) (by decide)).trans rfl
          show WS k 86 [(0, .ref (A 19))] [.int (Int32.ofInt e96)] (Wd A dT s95) 0 0
          refine z_if_ne X (t := 91) (show cdA 77 86 = some (.ifCond .ne 5, 3, 1, 0, 0) from rfl) (by decide) hrs95 (fun g102 => ?_) (fun g102 => ?_)
          ·
            refine z_aload_n X (x := A 19) (show cdA 77 91 = some (.aload_n 0, 1, 0, 0, 0) from rfl) (List.Mem.head _) ?_
            refine w_dup X.1 (ax_d X (show cdA 77 92 = some (.dup, 1, 0, 0, 0) from rfl)) rfl ?_
            refine z_getI X 19 (show cdA 77 93 = some (.getfield 44, 3, 7, 12, 0) from rfl) (by decide) rfl rfl ?_
            have b103 : (0 : Int) ≤ iI s95 19 ∧ iI s95 19 ≤ 6 := Is95.1 19
            refine z_const X (show cdA 77 96 = some (.iconst 1, 1, 0, 0, 0) from rfl) ?_
            refine z_sub X (show cdA 77 97 = some (.isub, 1, 0, 0, 0) from rfl) ?_
            refine s_putI X 19 (show cdA 77 98 = some (.putfield 44, 3, 7, 12, 0) from rfl) (by decide) rfl rfl (by decide) rfl rfl rfl ?_
            obtain ⟨s104, hs104⟩ : ∃ x0, x0 = uI s95 19 (Int32.ofInt ((iI s95 19) - 1)) := ⟨_, rfl⟩
            rw [← hs104]
            have Is104 : Bd s104 := by rw [hs104]; exact bd_I Is95 (show (0 : Int) ≤ ((iI s95 19) - 1) ∧ ((iI s95 19) - 1) ≤ 6 by first | exact ⟨oq_11a45c10 ws95_19 g94 hps85.1 g84 hps76.1 b6.1, oq_a9606c0d b103.2⟩ | omega) ⟨by first | exact oq_c1e961c7 b103.1 | omega, by first | exact oq_b383b26c b103.2 | omega⟩
            have Fs104 := fm_I (x := Int32.ofInt ((iI s95 19) - 1)) Gs95 (show 19 ∈ _ by decide)
            rw [← hs104] at Fs104
            have vs104 : iI s104 19 = ((iI s95 19) - 1) := by rw [hs104]; exact iI_u ⟨by first | exact oq_c1e961c7 b103.1 | omega, by first | exact oq_b383b26c b103.2 | omega⟩
            have ws104_2 : iI s104 2 = iI s95 2 := by rw [hs104]; rfl
            have ws104_1 : iI s104 1 = iI s95 1 := by rw [hs104]; rfl
            have ws104_4 : iI s104 4 = iI s95 4 := by rw [hs104]; rfl
            have ws104_5 : iI s104 5 = iI s95 5 := by rw [hs104]; rfl
            have ws104_6 : iI s104 6 = iI s95 6 := by rw [hs104]; rfl
            have ws104_16 : iI s104 16 = iI s95 16 := by rw [hs104]; rfl
            have ws104_7 : iI s104 7 = iI s95 7 := by rw [hs104]; rfl
            have dls104 : DL s104 = DL s85 := by rw [hs104]; exact dls95
            have fs104 : Fm [19] [] s95 s104 := by rw [hs104]; exact fm_I (fm_rf _ _ _) (show 19 ∈ _ by decide)
            have JBYW_s104 : BYW B N s104 := BYW_fm fs104 (by decide) JBYW_s95
            have JTKS_s104 : TKS B N s104 := TKS_fm fs104 (by decide) JTKS_s95
            refine z_const X (show cdA 77 101 = some (.iconst 1, 1, 0, 0, 0) from rfl) ?_
            have hRD : RDc B N 0 (iI s 4) (iI s 19) (DL s) s104 1 := by have h := rd_par (o := iI s 19) (v := s104) hC (by omega) (by have h := hps85.2.2.2; rw [show iI s76 4 = sk B N ((iI s 4) + 1) by first | exact hs2 | omega, show iI s76 19 = iI s 19 + 1 by first | exact oq_7736c826 g84 hps76.1 | omega] at h; exact h) (dls76) (by omega) hps95.2.2.2 (by rw [dls104]) (by omega) (by omega); rw [show e96 = 1 by omega] at h; exact h
            exact w_iret X.1 q hRt (nar_ret (by first | exact Or.inr (by decide) | omega)) (ax_d X (show cdA 77 102 = some (.ireturn, 1, 0, 0, 0) from rfl)) (Nat.zero_le _) (Nat.zero_le _) ⟨_, rfl, Is104, Fs104, JBYW_s104, JTKS_s104, 1, rfl, (by decide), ⟨rd_post hRD rfl (by first | exact oq_a7aeda53 g94 hps85.1 g84 hps76.1 p1 | omega) (by first | exact b7.1 | omega) (by first | exact oq_0f93fca7 ws104_16 ws95_16 b92.1 | omega) (fun h9 => by first | exact oq_a734e65a vs104 ws95_19 g94 hps85.1 g84 hps76.1 | omega), by first | exact oq_e7b9ecab ws104_1 ws104_2 hps95.2.1 | omega, by first | exact oq_e7b9ecab ws104_2 ws104_4 hps95.2.2.1 | omega, hRD⟩⟩
          ·
            refine z_const X (show cdA 77 89 = some (.iconst 0, 1, 0, 0, 0) from rfl) ?_
            have hRD : RDc B N 0 (iI s 4) (iI s 19) (DL s) s95 0 := by have h := rd_par (o := iI s 19) (v := s95) hC (by omega) (by have h := hps85.2.2.2; rw [show iI s76 4 = sk B N ((iI s 4) + 1) by first | exact hs2 | omega, show iI s76 19 = iI s 19 + 1 by first | exact oq_7736c826 g84 hps76.1 | omega] at h; exact h) (dls76) (by omega) hps95.2.2.2 (by rw [dls95]) (by omega) (by omega); rw [show e96 = 0 by omega] at h; exact h
            exact w_iret X.1 q hRt (nar_ret (by first | exact Or.inl (by decide) | omega)) (ax_d X (show cdA 77 90 = some (.ireturn, 1, 0, 0, 0) from rfl)) (Nat.zero_le _) (Nat.zero_le _) ⟨_, rfl, Is95, Gs95, JBYW_s95, JTKS_s95, 0, rfl, (by decide), ⟨rd_post hRD rfl (by first | exact oq_a7aeda53 g94 hps85.1 g84 hps76.1 p1 | omega) (by first | exact b7.1 | omega) (by first | exact oq_e4757433 ws95_16 b92.1 | omega) (fun h9 => absurd rfl h9), by first | exact hps95.2.1 | omega, by first | exact hps95.2.2.1 | omega, hRD⟩⟩
  ·
    have hz := hdg.1 (by omega)
    refine z_aload_n X (x := A 19) (show cdA 77 12 = some (.aload_n 0, 1, 0, 0, 0) from rfl) (List.Mem.head _) ?_
    refine s_getR X 19 (show cdA 77 13 = some (.getfield 31, 3, 7, 0, 0) from rfl) (by decide) rfl rfl ?_
    refine z_getI X 1 (show cdA 77 16 = some (.getfield 122, 3, 10, 7, 0) from rfl) (by decide) rfl rfl ?_
    have b105 : (0 : Int) ≤ iI s 6 ∧ iI s 6 ≤ 100000 := I.1 6
    refine z_sipush X (show cdA 77 19 = some (.sipush 999, 3, 0, 0, 999) from rfl) ?_
    refine z_icmp_le X (t := 34) (show cdA 77 22 = some (.if_icmp .le 12, 3, 5, 0, 0) from rfl) (by decide) (rng_to _) (by decide) (fun g106 => ?_) (fun g106 => ?_)
    ·
      refine z_aload_n X (x := A 19) (show cdA 77 34 = some (.aload_n 0, 1, 0, 0, 0) from rfl) (List.Mem.head _) ?_
      refine z_aload_n X (x := A 19) (show cdA 77 35 = some (.aload_n 0, 1, 0, 0, 0) from rfl) (List.Mem.head _) ?_
      refine s_getR X 19 (show cdA 77 36 = some (.getfield 31, 3, 7, 0, 0) from rfl) (by decide) rfl rfl ?_
      refine z_getI X 1 (show cdA 77 39 = some (.getfield 122, 3, 10, 7, 0) from rfl) (by decide) rfl rfl ?_
      have b107 : (0 : Int) ≤ iI s 6 ∧ iI s 6 ≤ 100000 := I.1 6
      refine z_callV X 19 (rm := rmN 82) (As := [.int (Int32.ofInt (iI s 6))]) (st := []) (show cdA 77 42 = some (.invokevirtual 103, 3, 82, 0, 0) from rfl) rfl (by decide) rfl (by rw [E.1, E.2.1, E.2.2.1]; exact c7_put3 G I (by first | exact ⟨oq_fa4e5087 b107.1, oq_25953902 b107.2⟩ | omega) (by omega)) ⟨by rw [E.2.2.2]; exact (show 6 + 1 ≤ (12 + (4 * (r + 1) + 1)) from oq_76ff689a r), by rw [E.2.2.2]; exact (show 8 + (2 + 11) + 100 ≤ (500 + 45 * (4 * (r + 1) + 1)) from oq_0822d50d r), by rw [E.2.2.2]; exact Nat.le_refl 0, by rw [E.2.2.2]; exact Nat.le_refl 0⟩ (Nat.le_of_ble_eq_true rfl) (fun vv s108 hq => ?_) (fun ee s108 hq => ?_)
      rotate_left
      · obtain ⟨Is108, Fs108, hv, hps108⟩ := hq; cases hv
      obtain ⟨Is108, Fs108, hv, hps108⟩ := hq
      cases hv
      have Gs108 := fm_ts F Fs108 (by decide) (by decide)
      have JBYW_s108 : BYW B N s108 := BYW_fm Fs108 (by decide) jBYW
      have JTKS_s108 : TKS B N s108 := TKS_fm Fs108 (by decide) jTKS
      have ws108_2 : iI s108 2 = iI s 2 := fm_i Fs108 (by decide)
      have ws108_1 : iI s108 1 = iI s 1 := fm_i Fs108 (by decide)
      have ws108_4 : iI s108 4 = iI s 4 := fm_i Fs108 (by decide)
      have ws108_5 : iI s108 5 = iI s 5 := fm_i Fs108 (by decide)
      have ws108_6 : iI s108 6 = iI s 6 := fm_i Fs108 (by decide)
      have ws108_19 : iI s108 19 = iI s 19 := fm_i Fs108 (by decide)
      have b110 : (0 : Int) ≤ iI s108 16 ∧ iI s108 16 ≤ 200 := Is108.1 16
      have ws108_7 : iI s108 7 = iI s 7 := fm_i Fs108 (by decide)
      have dls108 : DL s108 = DL s ++ [(iI s 6)] := by rw [hps108.2]
      show WS k 45 [(0, .ref (A 19))] [] (Wd A dT s108) 0 0
      refine z_aload_n X (x := A 19) (show cdA 77 45 = some (.aload_n 0, 1, 0, 0, 0) from rfl) (List.Mem.head _) ?_
      refine s_getR X 19 (show cdA 77 46 = some (.getfield 31, 3, 7, 0, 0) from rfl) (by decide) rfl rfl ?_
      refine z_callV X 1 (rm := rmN 129) (As := []) (st := []) (show cdA 77 49 = some (.invokevirtual 85, 3, 129, 0, 0) from rfl) rfl (by decide) rfl (by rw [E.1, E.2.1, E.2.2.1]; exact c10_step3 G Is108 JBYW_s108 (by first | exact oq_e7b9ecab ws108_1 ws108_2 p0 | omega)) ⟨by rw [E.2.2.2]; exact (show 7 + 1 ≤ (12 + (4 * (r + 1) + 1)) from oq_9b435bb4 r), by rw [E.2.2.2]; exact (show 8 + (1 + 11) + 121 ≤ (500 + 45 * (4 * (r + 1) + 1)) from oq_f85a7cd7 r), by rw [E.2.2.2]; exact Nat.le_refl 0, by rw [E.2.2.2]; exact Nat.le_refl 0⟩ (Nat.le_of_ble_eq_true rfl) (fun vv s111 hq => ?_) (fun ee s111 hq => ?_)
      rotate_left
      · obtain ⟨Is111, Fs111, JBYW_s111, JTKS_s111, hv, hps111⟩ := hq; cases hv
      obtain ⟨Is111, Fs111, JBYW_s111, JTKS_s111, hv, hps111⟩ := hq
      cases hv
      have Gs111 := fm_ts Gs108 Fs111 (by decide) (by decide)
      have JBYW_s111 : BYW B N s111 := BYW_fm Fs111 (by decide) JBYW_s108
      have b113 : (0 : Int) ≤ iI s111 2 ∧ iI s111 2 ≤ 200 := Is111.1 2
      have ws111_1 : iI s111 1 = iI s108 1 := fm_i Fs111 (by decide)
      have b114 : (0 : Int) ≤ iI s111 4 ∧ iI s111 4 ≤ 200 := Is111.1 4
      have b115 : ((-3) : Int) ≤ iI s111 5 ∧ iI s111 5 ≤ 255 := Is111.1 5
      have b116 : (0 : Int) ≤ iI s111 6 ∧ iI s111 6 ≤ 100000 := Is111.1 6
      have ws111_19 : iI s111 19 = iI s108 19 := fm_i Fs111 (by decide)
      have ws111_16 : iI s111 16 = iI s108 16 := fm_i Fs111 (by decide)
      have ws111_7 : iI s111 7 = iI s108 7 := fm_i Fs111 (by decide)
      have dls111 : DL s111 = DL s ++ [(iI s 6)] := (DL_fm Fs111 (by decide) (by decide)).trans dls108
      show WS k 52 [(0, .ref (A 19))] [] (Wd A dT s111) 0 0
      refine z_const X (show cdA 77 52 = some (.iconst 1, 1, 0, 0, 0) from rfl) ?_
      have hRD : RDc B N 0 (iI s 4) (iI s 19) (DL s) s111 1 := rd_ok (pu_num hz.1 (by omega)) (by rw [hps111.2.2.1, show iI s108 2 = nmE B N (iI s 4) 0 by omega]) (by rw [dls111, show (iI s 6) = nmV B N (iI s 4) 0 by omega])
      exact w_iret X.1 q hRt (nar_ret (by first | exact Or.inr (by decide) | omega)) (ax_d X (show cdA 77 53 = some (.ireturn, 1, 0, 0, 0) from rfl)) (Nat.zero_le _) (Nat.zero_le _) ⟨_, rfl, Is111, Gs111, JBYW_s111, JTKS_s111, 1, rfl, (by decide), ⟨rd_post hRD rfl (by omega) (by first | exact b7.1 | omega) (by first | exact oq_e4757433 ws111_16 b110.1 | omega) (fun h9 => by first | exact oq_1aa5be9e ws111_19 ws108_19 | omega), by first | exact hps111.1 | omega, by first | exact hps111.2.1 | omega, hRD⟩⟩
    ·
      refine z_aload_n X (x := A 19) (show cdA 77 25 = some (.aload_n 0, 1, 0, 0, 0) from rfl) (List.Mem.head _) ?_
      refine s_getR X 19 (show cdA 77 26 = some (.getfield 31, 3, 7, 0, 0) from rfl) (by decide) rfl rfl ?_
      refine z_const X (show cdA 77 29 = some (.iconst 2, 1, 0, 0, 0) from rfl) ?_
      refine z_callV X 1 (rm := rmN 132) (As := [.int (Int32.ofInt 2)]) (st := []) (show cdA 77 30 = some (.invokevirtual 82, 3, 132, 0, 0) from rfl) rfl (by decide) rfl (by rw [E.1, E.2.1, E.2.2.1]; exact c10_refuse3 G I (by first | exact ⟨by decide, by decide⟩ | omega)) ⟨by rw [E.2.2.2]; exact (show 7 + 1 ≤ (12 + (4 * (r + 1) + 1)) from oq_9b435bb4 r), by rw [E.2.2.2]; exact (show 8 + (2 + 11) + 122 ≤ (500 + 45 * (4 * (r + 1) + 1)) from oq_1c2c1baf r), by rw [E.2.2.2]; exact Nat.le_refl 0, by rw [E.2.2.2]; exact Nat.le_refl 0⟩ (Nat.le_of_ble_eq_true rfl) (fun vv s117 hq => ?_) (fun ee s117 hq => ?_)
      rotate_left
      · obtain ⟨Is117, Fs117, e118, hv, hrs117, hps117⟩ := hq; cases hv
      obtain ⟨Is117, Fs117, e118, hv, hrs117, hps117⟩ := hq
      cases hv
      have Gs117 := fm_ts F Fs117 (by decide) (by decide)
      have JBYW_s117 : BYW B N s117 := BYW_fm Fs117 (by decide) jBYW
      have JTKS_s117 : TKS B N s117 := TKS_fm Fs117 (by decide) jTKS
      have ws117_2 : iI s117 2 = iI s 2 := fm_i Fs117 (by decide)
      have ws117_1 : iI s117 1 = iI s 1 := fm_i Fs117 (by decide)
      have ws117_4 : iI s117 4 = iI s 4 := fm_i Fs117 (by decide)
      have ws117_5 : iI s117 5 = iI s 5 := fm_i Fs117 (by decide)
      have ws117_6 : iI s117 6 = iI s 6 := fm_i Fs117 (by decide)
      have ws117_19 : iI s117 19 = iI s 19 := fm_i Fs117 (by decide)
      have ws117_16 : iI s117 16 = iI s 16 := fm_i Fs117 (by decide)
      have b119 : (0 : Int) ≤ iI s117 7 ∧ iI s117 7 ≤ 9 := Is117.1 7
      have dls117 : DL s117 = DL s := (DL_fm Fs117 (by decide) (by decide)).trans rfl
      show WS k 33 [(0, .ref (A 19))] [.int (Int32.ofInt e118)] (Wd A dT s117) 0 0
      have hRD : RDc B N 0 (iI s 4) (iI s 19) (DL s) s117 e118 := by rw [show e118 = 0 by omega]; exact rd_no (pu_big hz.1 (by omega)) (by decide) (by omega)
      exact w_iret X.1 q hRt (nar_ret (by first | exact Or.inl (hps117.1) | omega)) (ax_d X (show cdA 77 33 = some (.ireturn, 1, 0, 0, 0) from rfl)) (Nat.zero_le _) (Nat.zero_le _) ⟨_, rfl, Is117, Gs117, JBYW_s117, JTKS_s117, e118, rfl, hrs117, ⟨rd_post hRD rfl (by omega) (by first | exact b7.1 | omega) (by first | exact oq_e4757433 ws117_16 b7.1 | omega) (fun h9 => by first | exact ws117_19 | omega), by first | exact oq_e7b9ecab ws117_1 ws117_2 p0 | omega, by first | exact oq_e7b9ecab ws117_2 ws117_4 p1 | omega, hRD⟩⟩
set_option maxRecDepth 4000 in
theorem c7_prodS3 (G : GX l s0 D tys a0 dT) {B : Nat → Int} {N : Int} (SF : SF0 s0) (GT : TXw0 s0) {r : Nat} (hU : ∀ {s : PS} , Bd s → BYW B N s → TKS B N s → (iI s 2 ≤ iI s 1) → (iI s 4 ≤ iI s 2) → (6 - iI s 19 ≤ ((r : Nat) : Int)) → (iI s 16 ≤ iI s 4) → CT l s0 D A dT 77 (rkR (4 * (r) + 1)) [.ref (A 19)] s (fun o t => Bd t ∧ Fm [2, 4, 6, 5, 7, 8, 19, 16] [18] s t ∧ BYW B N t ∧ TKS B N t ∧ ∃ e, o = .inl (some (.int (Int32.ofInt e))) ∧ rng e ∧ ((e = 0 ∨ (e = 1 ∧ iI t 19 = iI s 19 ∧ iI s 4 ≤ iI t 4 ∧ iI t 4 ≤ N ∧ iI t 16 + iI s 4 ≤ iI s 16 + iI t 4)) ∧ iI t 2 ≤ iI t 1 ∧ iI t 4 ≤ iI t 2 ∧ RDc B N 0 (iI s 4) (iI s 19) (DL s) t e))) (I : Bd s) (jBYW : BYW B N s) (jTKS : TKS B N s) (p0 : iI s 2 ≤ iI s 1) (p1 : iI s 4 ≤ iI s 2) (p2 : 6 - iI s 19 ≤ ((r : Nat) : Int)) (p3 : iI s 16 ≤ iI s 4) : CT l s0 D A dT 76 (rkR (4 * (r) + 2)) [.ref (A 19)] s (fun o t => Bd t ∧ Fm [2, 4, 6, 5, 7, 8, 19, 16] [18] s t ∧ BYW B N t ∧ TKS B N t ∧ ∃ e, o = .inl (some (.int (Int32.ofInt e))) ∧ rng e ∧ ((e = 0 ∨ (e = 1 ∧ iI t 19 = iI s 19 ∧ iI s 4 ≤ iI t 4 ∧ iI t 4 ≤ N ∧ iI t 16 + iI s 4 ≤ iI s 16 + iI t 4)) ∧ iI t 2 ≤ iI t 1 ∧ iI t 4 ≤ iI t 2 ∧ RDc B N 1 (iI s 4) (iI s 19) (DL s) t e)) := by
  refine ct_ofX G (by decide) (Nat.le_of_ble_eq_true rfl) (fun k X E ET hRt hXt q => ?_)
  show WS k 0 [(0, .ref (A 19))] [] _ 0 0
  have F : Fm [2, 4, 6, 5, 7, 8, 19, 16] [18] s s := fm_rf _ _ s
  have hN := jBYW.2.1
  have hW := jBYW.2.2
  have hdg := tkw_dg jTKS
  have hwd := tkw_wd jTKS
  have b1 : (0 : Int) ≤ iI s 2 ∧ iI s 2 ≤ 200 := I.1 2
  have b2 : (0 : Int) ≤ iI s 1 ∧ iI s 1 ≤ 200 := I.1 1
  have b3 : (0 : Int) ≤ iI s 4 ∧ iI s 4 ≤ 200 := I.1 4
  have b4 : ((-3) : Int) ≤ iI s 5 ∧ iI s 5 ≤ 255 := I.1 5
  have b5 : (0 : Int) ≤ iI s 6 ∧ iI s 6 ≤ 100000 := I.1 6
  have b6 : (0 : Int) ≤ iI s 19 ∧ iI s 19 ≤ 6 := I.1 19
  have b7 : (0 : Int) ≤ iI s 16 ∧ iI s 16 ≤ 200 := I.1 16
  have b8 : (0 : Int) ≤ iI s 7 ∧ iI s 7 ≤ 9 := I.1 7
  have L11 : ∀ (n : Nat) (t : PS) (c : Int), Bd t → Fm [2, 4, 6, 5, 7, 8, 19, 16] [18] s t → BYW B N t → TKS B N t → (RSc B N 2 1 (iI s 4) (iI s 19) (DL s) t) → (0 ≤ c ∧ c ≤ 200 ∧ iI t 19 = iI s 19 ∧ iI s 4 ≤ iI t 4 ∧ iI t 4 ≤ N ∧ iI t 16 + iI s 4 ≤ iI s 16 + iI t 4 ∧ c + iI s 4 ≤ iI t 4 ∧ iI t 2 ≤ iI t 1 ∧ iI t 4 ≤ iI t 2) → (200 - c : Int).toNat < n → (∀ (t' : PS) (c' : Int), Bd t' → Fm [2, 4, 6, 5, 7, 8, 19, 16] [18] s t' → BYW B N t' → TKS B N t' → (RSc B N 2 1 (iI s 4) (iI s 19) (DL s) t') → (0 ≤ c' ∧ c' ≤ 200 ∧ iI t' 19 = iI s 19 ∧ iI s 4 ≤ iI t' 4 ∧ iI t' 4 ≤ N ∧ iI t' 16 + iI s 4 ≤ iI s 16 + iI t' 4 ∧ c' + iI s 4 ≤ iI t' 4 ∧ iI t' 2 ≤ iI t' 1 ∧ iI t' 4 ≤ iI t' 2 ∧ iI t' 5 ≠ 42 ∧ iI t' 5 ≠ 47) → WS k 89 [(0, .ref (A 19)), (1, .int (Int32.ofInt c'))] [] (Wd A dT t') 0 0) → WS k 11 [(0, .ref (A 19)), (1, .int (Int32.ofInt c))] [] (Wd A dT t) 0 0 := by
    intro n
    induction n with
    | zero =>
      intro t c I F jjBYW jjTKS hq hi hm kx
      exact absurd hm (Nat.not_lt_zero _)
    | succ n ih =>
      intro t c I F jjBYW jjTKS hq hi hm kx
      have b1001 : (0 : Int) ≤ iI t 2 ∧ iI t 2 ≤ 200 := I.1 2
      have b1002 : (0 : Int) ≤ iI t 1 ∧ iI t 1 ≤ 200 := I.1 1
      have b1003 : (0 : Int) ≤ iI t 4 ∧ iI t 4 ≤ 200 := I.1 4
      have b1004 : ((-3) : Int) ≤ iI t 5 ∧ iI t 5 ≤ 255 := I.1 5
      have b1005 : (0 : Int) ≤ iI t 6 ∧ iI t 6 ≤ 100000 := I.1 6
      have b1006 : (0 : Int) ≤ iI t 19 ∧ iI t 19 ≤ 6 := I.1 19
      have b1007 : (0 : Int) ≤ iI t 16 ∧ iI t 16 ≤ 200 := I.1 16
      have b1008 : (0 : Int) ≤ iI t 7 ∧ iI t 7 ≤ 9 := I.1 7
      have hN := jjBYW.2.1
      have hW := jjBYW.2.2
      have hwt := tkw_wd jjTKS
      have hlt := tkw_end jjTKS
      have hc42 := tkw_ch (x := 42) jjTKS (by decide) (by decide) (by decide)
      have hc47 := tkw_ch (x := 47) jjTKS (by decide) (by decide) (by decide)
      refine z_load_n X (x := c) (show cdA 76 11 = some (.iload_n 1, 1, 0, 0, 0) from rfl) (List.Mem.tail _ (List.Mem.head _)) ?_
      refine z_sipush X (show cdA 76 12 = some (.sipush 200, 3, 0, 0, 200) from rfl) ?_
      refine z_icmp_ge X (t := 89) (show cdA 76 15 = some (.if_icmp .ge 74, 3, 3, 0, 0) from rfl) (by decide) ⟨by first | exact oq_fa4e5087 hi.1 | omega, by first | exact oq_52af2b96 hi.2.1 | omega⟩ (by decide) (fun g1009 => ?_) (fun g1009 => ?_)
      ·
        refine WS_lv (lv := [(0, .ref (A 19)), (1, .int (Int32.ofInt c))]) (List.forall_mem_cons.mpr ⟨(List.Mem.head _), (List.forall_mem_cons.mpr ⟨(List.Mem.tail _ (List.Mem.head _)), (fun q h => absurd h List.not_mem_nil)⟩)⟩) ?_
        exact kx _ c I F jjBYW jjTKS (rx_mv hq rfl (by omega)) (by first | exact ⟨hi.1, hi.2.1, hi.2.2.1, hi.2.2.2.1, hi.2.2.2.2.1, hi.2.2.2.2.2.1, hi.2.2.2.2.2.2.1, hi.2.2.2.2.2.2.2.1, hi.2.2.2.2.2.2.2.2, by omega, by omega⟩ | omega)
      ·
        refine z_aload_n X (x := A 19) (show cdA 76 18 = some (.aload_n 0, 1, 0, 0, 0) from rfl) (List.Mem.head _) ?_
        refine s_getR X 19 (show cdA 76 19 = some (.getfield 31, 3, 7, 0, 0) from rfl) (by decide) rfl rfl ?_
        refine z_getI X 1 (show cdA 76 22 = some (.getfield 47, 3, 10, 6, 0) from rfl) (by decide) rfl rfl ?_
        have b1010 : ((-3) : Int) ≤ iI t 5 ∧ iI t 5 ≤ 255 := I.1 5
        refine z_bipush X (show cdA 76 25 = some (.bipush 42, 2, 0, 0, 42) from rfl) ?_
        refine z_icmp_eq X (t := 42) (show cdA 76 27 = some (.if_icmp .eq 15, 3, 0, 0, 0) from rfl) (by decide) (rng_to _) (by decide) (fun g1011 => ?_) (fun g1011 => ?_)
        ·
          refine z_aload_n X (x := A 19) (show cdA 76 42 = some (.aload_n 0, 1, 0, 0, 0) from rfl) (List.Mem.head _) ?_
          refine s_getR X 19 (show cdA 76 43 = some (.getfield 31, 3, 7, 0, 0) from rfl) (by decide) rfl rfl ?_
          refine z_getI X 1 (show cdA 76 46 = some (.getfield 47, 3, 10, 6, 0) from rfl) (by decide) rfl rfl ?_
          have b1012 : ((-3) : Int) ≤ iI t 5 ∧ iI t 5 ≤ 255 := I.1 5
          refine z_bipush X (show cdA 76 49 = some (.bipush 42, 2, 0, 0, 42) from rfl) ?_
          have N1013 : ∀ e1014 : Int, ((((iI t 5) ≠ 42) ∧ e1014 = (-12)) ∨ (((iI t 5) = 42) ∧ e1014 = (-11))) → WS k 61 [(0, .ref (A 19)), (1, .int (Int32.ofInt c))] [.int (Int32.ofInt e1014)] (Wd A dT t) 0 0 := by
            intro e1014 he1014
            have re1014 : (-12) ≤ e1014 ∧ e1014 ≤ (-11) := by omega
            refine z_store_n X (lv' := [(2, .int (Int32.ofInt e1014)), (0, .ref (A 19)), (1, .int (Int32.ofInt c))]) (show cdA 76 61 = some (.istore_n 2, 1, 0, 0, 0) from rfl) (by decide) (fun _ h => h) ?_
            refine z_aload_n X (x := A 19) (show cdA 76 62 = some (.aload_n 0, 1, 0, 0, 0) from rfl) (List.Mem.tail _ (List.Mem.head _)) ?_
            refine s_getR X 19 (show cdA 76 63 = some (.getfield 31, 3, 7, 0, 0) from rfl) (by decide) rfl rfl ?_
            have hcd : chT B N (iI t 4) 42 ∨ chT B N (iI t 4) 47 := (by first | exact Or.inl (hc42.1 (by omega)).1 | exact Or.inr (hc47.1 (by omega)).1)
            have ha1 : iI t 2 = iI t 4 + 1 := by first | exact (hc42.1 (by omega)).2 | exact (hc47.1 (by omega)).2
            have hop : e1014 = opC B (iI t 4) := by have hc := hcd; unfold opC; rcases hc with q | q <;> rw [q.2] <;> omega
            refine z_callV X 1 (rm := rmN 129) (As := []) (st := []) (show cdA 76 66 = some (.invokevirtual 85, 3, 129, 0, 0) from rfl) rfl (by decide) rfl (by rw [E.1, E.2.1, E.2.2.1]; exact c10_step3 G I jjBYW (by first | exact hi.2.2.2.2.2.2.2.1 | omega)) ⟨by rw [E.2.2.2]; exact (show 7 + 1 ≤ (12 + (4 * (r) + 2)) from oq_4941a422 r), by rw [E.2.2.2]; exact (show 8 + (1 + 11) + 121 ≤ (500 + 45 * (4 * (r) + 2)) from oq_a823803b r), by rw [E.2.2.2]; exact Nat.le_refl 0, by rw [E.2.2.2]; exact Nat.le_refl 0⟩ (Nat.le_of_ble_eq_true rfl) (fun vv s1015 hq => ?_) (fun ee s1015 hq => ?_)
            rotate_left
            · obtain ⟨Is1015, Fs1015, JBYW_s1015, JTKS_s1015, hv, hps1015⟩ := hq; cases hv
            obtain ⟨Is1015, Fs1015, JBYW_s1015, JTKS_s1015, hv, hps1015⟩ := hq
            cases hv
            have Gs1015 := fm_ts F Fs1015 (by decide) (by decide)
            have JBYW_s1015 : BYW B N s1015 := BYW_fm Fs1015 (by decide) jjBYW
            have b1017 : (0 : Int) ≤ iI s1015 2 ∧ iI s1015 2 ≤ 200 := Is1015.1 2
            have ws1015_1 : iI s1015 1 = iI t 1 := fm_i Fs1015 (by decide)
            have b1018 : (0 : Int) ≤ iI s1015 4 ∧ iI s1015 4 ≤ 200 := Is1015.1 4
            have b1019 : ((-3) : Int) ≤ iI s1015 5 ∧ iI s1015 5 ≤ 255 := Is1015.1 5
            have b1020 : (0 : Int) ≤ iI s1015 6 ∧ iI s1015 6 ≤ 100000 := Is1015.1 6
            have ws1015_19 : iI s1015 19 = iI t 19 := fm_i Fs1015 (by decide)
            have ws1015_16 : iI s1015 16 = iI t 16 := fm_i Fs1015 (by decide)
            have ws1015_7 : iI s1015 7 = iI t 7 := fm_i Fs1015 (by decide)
            have dls1015 : DL s1015 = DL t := (DL_fm Fs1015 (by decide) (by decide)).trans rfl
            show WS k 69 [(2, .int (Int32.ofInt e1014)), (0, .ref (A 19)), (1, .int (Int32.ofInt c))] [] (Wd A dT s1015) 0 0
            have hs9 : iI s1015 4 = sk B N (iI t 4 + 1) := by rw [hps1015.2.2.1, show iI t 2 = iI t 4 + 1 by omega]
            refine z_aload_n X (x := A 19) (show cdA 76 69 = some (.aload_n 0, 1, 0, 0, 0) from rfl) (List.Mem.tail _ (List.Mem.head _)) ?_
            refine z_callV X 19 (rm := (rkR (4 * (r) + 1))) (As := []) (st := []) (show cdA 76 70 = some (.invokevirtual 119, 3, 77, 0, 0) from rfl) rfl (by decide) rfl (by rw [E.1, E.2.1, E.2.2.1]; exact hU Is1015 JBYW_s1015 JTKS_s1015 (by first | exact hps1015.1 | omega) (by first | exact hps1015.2.1 | omega) (by first | exact oq_abe4e353 p2 ws1015_19 hi.2.2.1 | omega) (by first | exact oq_9b272ea2 ws1015_16 hi.2.2.2.2.2.1 p3 hps1015.2.2.2 ha1 | omega)) ⟨by rw [E.2.2.2]; exact (show (12 + (4 * (r) + 1)) + 1 ≤ (12 + (4 * (r) + 2)) from oq_dbb6b233 r), by rw [E.2.2.2]; exact (show 8 + (2 + 11) + (500 + 45 * (4 * (r) + 1)) ≤ (500 + 45 * (4 * (r) + 2)) from oq_0cecdb5e r), by rw [E.2.2.2]; exact Nat.le_refl 0, by rw [E.2.2.2]; exact Nat.le_refl 0⟩ (Nat.le_of_ble_eq_true rfl) (fun vv s1021 hq => ?_) (fun ee s1021 hq => ?_)
            rotate_left
            · obtain ⟨Is1021, Fs1021, JBYW_s1021, JTKS_s1021, e1022, hv, hrs1021, hps1021⟩ := hq; cases hv
            obtain ⟨Is1021, Fs1021, JBYW_s1021, JTKS_s1021, e1022, hv, hrs1021, hps1021⟩ := hq
            cases hv
            have Gs1021 := fm_ts Gs1015 Fs1021 (by decide) (by decide)
            have JBYW_s1021 : BYW B N s1021 := BYW_fm Fs1021 (by decide) JBYW_s1015
            have b1023 : (0 : Int) ≤ iI s1021 2 ∧ iI s1021 2 ≤ 200 := Is1021.1 2
            have ws1021_1 : iI s1021 1 = iI s1015 1 := fm_i Fs1021 (by decide)
            have b1024 : (0 : Int) ≤ iI s1021 4 ∧ iI s1021 4 ≤ 200 := Is1021.1 4
            have b1025 : ((-3) : Int) ≤ iI s1021 5 ∧ iI s1021 5 ≤ 255 := Is1021.1 5
            have b1026 : (0 : Int) ≤ iI s1021 6 ∧ iI s1021 6 ≤ 100000 := Is1021.1 6
            have b1027 : (0 : Int) ≤ iI s1021 19 ∧ iI s1021 19 ≤ 6 := Is1021.1 19
            have b1028 : (0 : Int) ≤ iI s1021 16 ∧ iI s1021 16 ≤ 200 := Is1021.1 16
            have b1029 : (0 : Int) ≤ iI s1021 7 ∧ iI s1021 7 ≤ 9 := Is1021.1 7
            show WS k 73 [(2, .int (Int32.ofInt e1014)), (0, .ref (A 19)), (1, .int (Int32.ofInt c))] [.int (Int32.ofInt e1022)] (Wd A dT s1021) 0 0
            refine z_if_ne X (t := 78) (show cdA 76 73 = some (.ifCond .ne 5, 3, 1, 0, 0) from rfl) (by decide) hrs1021 (fun g1030 => ?_) (fun g1030 => ?_)
            ·
              refine z_aload_n X (x := A 19) (show cdA 76 78 = some (.aload_n 0, 1, 0, 0, 0) from rfl) (List.Mem.tail _ (List.Mem.head _)) ?_
              refine z_load_n X (x := e1014) (show cdA 76 79 = some (.iload_n 2, 1, 0, 0, 0) from rfl) (List.Mem.head _) ?_
              refine z_callV X 19 (rm := rmN 82) (As := [.int (Int32.ofInt e1014)]) (st := []) (show cdA 76 80 = some (.invokevirtual 103, 3, 82, 0, 0) from rfl) rfl (by decide) rfl (by rw [E.1, E.2.1, E.2.2.1]; exact c7_put3 G Is1021 (by first | exact ⟨oq_b4ff86be re1014.1, oq_8c06164c re1014.2⟩ | omega) (by first | exact oq_cbf4270c g1030 b1024.2 hps1021.1 ws1015_16 hps1015.2.2.2 ha1 hi.2.2.2.2.2.1 p3 | omega)) ⟨by rw [E.2.2.2]; exact (show 6 + 1 ≤ (12 + (4 * (r) + 2)) from oq_d8760254 r), by rw [E.2.2.2]; exact (show 8 + (2 + 11) + 100 ≤ (500 + 45 * (4 * (r) + 2)) from oq_29829ae4 r), by rw [E.2.2.2]; exact Nat.le_refl 0, by rw [E.2.2.2]; exact Nat.le_refl 0⟩ (Nat.le_of_ble_eq_true rfl) (fun vv s1031 hq => ?_) (fun ee s1031 hq => ?_)
              rotate_left
              · obtain ⟨Is1031, Fs1031, hv, hps1031⟩ := hq; cases hv
              obtain ⟨Is1031, Fs1031, hv, hps1031⟩ := hq
              cases hv
              have Gs1031 := fm_ts Gs1021 Fs1031 (by decide) (by decide)
              have JBYW_s1031 : BYW B N s1031 := BYW_fm Fs1031 (by decide) JBYW_s1021
              have JTKS_s1031 : TKS B N s1031 := TKS_fm Fs1031 (by decide) JTKS_s1021
              have ws1031_2 : iI s1031 2 = iI s1021 2 := fm_i Fs1031 (by decide)
              have ws1031_1 : iI s1031 1 = iI s1021 1 := fm_i Fs1031 (by decide)
              have ws1031_4 : iI s1031 4 = iI s1021 4 := fm_i Fs1031 (by decide)
              have ws1031_5 : iI s1031 5 = iI s1021 5 := fm_i Fs1031 (by decide)
              have ws1031_6 : iI s1031 6 = iI s1021 6 := fm_i Fs1031 (by decide)
              have ws1031_19 : iI s1031 19 = iI s1021 19 := fm_i Fs1031 (by decide)
              have b1033 : (0 : Int) ≤ iI s1031 16 ∧ iI s1031 16 ≤ 200 := Is1031.1 16
              have ws1031_7 : iI s1031 7 = iI s1021 7 := fm_i Fs1031 (by decide)
              have dls1031 : DL s1031 = DL s1021 ++ [e1014] := by rw [hps1031.2]
              show WS k 83 [(2, .int (Int32.ofInt e1014)), (0, .ref (A 19)), (1, .int (Int32.ofInt c))] [] (Wd A dT s1031) 0 0
              refine z_inc X (x := c) (lv' := [(1, .int (Int32.ofInt (c + 1))), (2, .int (Int32.ofInt e1014)), (0, .ref (A 19))]) (show cdA 76 83 = some (.iinc 1 1, 3, 0, 0, 0) from rfl) (by decide) (List.Mem.tail _ (List.Mem.tail _ (List.Mem.head _))) (fun _ h => h) ?_
              refine z_goto X (t := 11) (show cdA 76 86 = some (.goto (-75), 3, 0, 0, 0) from rfl) (by decide) ?_
              refine WS_lv (lv := [(0, .ref (A 19)), (1, .int (Int32.ofInt (c + 1)))]) (List.forall_mem_cons.mpr ⟨(List.Mem.tail _ (List.Mem.tail _ (List.Mem.head _))), (List.forall_mem_cons.mpr ⟨(List.Mem.head _), (fun q h => absurd h List.not_mem_nil)⟩)⟩) ?_
              exact ih _ (c + 1) Is1031 Gs1031 JBYW_s1031 JTKS_s1031 (rx_up (q1 := sk B N (iI t 4 + 1)) hq (dls1015) (by have h := hps1021.2.2.2; rw [show iI s1015 4 = sk B N (iI t 4 + 1) by omega, show iI s1015 19 = iI s 19 by omega] at h; exact h) (by omega) dls1031 (by omega) (fun a r r1 h z h2 => rp_go hcd h z (by rw [← hop]; exact h2))) (by first | exact ⟨oq_54f49eb5 hi.1, oq_0cb6ab8a g1009, oq_5901dee4 ws1031_19 g1030 hps1021.1 ws1015_19 hi.2.2.1, oq_c0e77623 ws1031_4 g1030 hps1021.1 hps1015.2.2.2 ha1 hi.2.2.2.1, oq_a2786552 ws1031_4 g1030 hps1021.1, by omega, oq_155da3c6 ws1031_4 g1030 hps1021.1 hps1015.2.2.2 ha1 hi.2.2.2.2.2.2.1, oq_e7b9ecab ws1031_1 ws1031_2 hps1021.2.1, oq_e7b9ecab ws1031_2 ws1031_4 hps1021.2.2.1⟩ | omega) (by first | exact qk_me hm (by decide) (oq_1ab01402 g1009) | omega) kx
            ·
              refine z_const X (show cdA 76 76 = some (.iconst 0, 1, 0, 0, 0) from rfl) ?_
              have hRD : RDc B N 1 (iI s 4) (iI s 19) (DL s) s1021 0 := rx_bad hq (by have h := hps1021.2.2.2; rw [show iI s1015 4 = sk B N (iI t 4 + 1) by omega, show iI s1015 19 = iI s 19 by omega] at h; exact h) (by omega) (by omega) (fun a r h z => rp_bad hcd h z)
              exact w_iret X.1 q hRt (nar_ret (by first | exact Or.inl (by decide) | omega)) (ax_d X (show cdA 76 77 = some (.ireturn, 1, 0, 0, 0) from rfl)) (Nat.zero_le _) (Nat.zero_le _) ⟨_, rfl, Is1021, Gs1021, JBYW_s1021, JTKS_s1021, 0, rfl, (by decide), ⟨rd_post hRD rfl (by first | exact oq_f8a2cf0e hi.2.2.2.2.1 hi.2.2.2.1 | omega) (by first | exact b7.1 | omega) (by first | exact b1028.1 | omega) (fun h9 => absurd rfl h9), by first | exact hps1021.2.1 | omega, by first | exact hps1021.2.2.1 | omega, hRD⟩⟩
          refine z_icmp_ne X (t := 59) (show cdA 76 51 = some (.if_icmp .ne 8, 3, 1, 0, 0) from rfl) (by decide) (rng_to _) (by decide) (fun g1034 => ?_) (fun g1034 => ?_)
          ·
            refine z_bipush X (show cdA 76 59 = some (.bipush (-12), 2, 0, 0, (-12)) from rfl) ?_
            exact N1013 _ (Or.inl ⟨g1034, rfl⟩)
          ·
            refine z_bipush X (show cdA 76 54 = some (.bipush (-11), 2, 0, 0, (-11)) from rfl) ?_
            refine z_goto X (t := 61) (show cdA 76 56 = some (.goto 5, 3, 0, 0, 0) from rfl) (by decide) ?_
            exact N1013 _ (Or.inr (⟨g1034, rfl⟩))
        ·
          refine z_aload_n X (x := A 19) (show cdA 76 30 = some (.aload_n 0, 1, 0, 0, 0) from rfl) (List.Mem.head _) ?_
          refine s_getR X 19 (show cdA 76 31 = some (.getfield 31, 3, 7, 0, 0) from rfl) (by decide) rfl rfl ?_
          refine z_getI X 1 (show cdA 76 34 = some (.getfield 47, 3, 10, 6, 0) from rfl) (by decide) rfl rfl ?_
          have b1035 : ((-3) : Int) ≤ iI t 5 ∧ iI t 5 ≤ 255 := I.1 5
          refine z_bipush X (show cdA 76 37 = some (.bipush 47, 2, 0, 0, 47) from rfl) ?_
          refine z_icmp_ne X (t := 89) (show cdA 76 39 = some (.if_icmp .ne 50, 3, 1, 0, 0) from rfl) (by decide) (rng_to _) (by decide) (fun g1036 => ?_) (fun g1036 => ?_)
          ·
            refine WS_lv (lv := [(0, .ref (A 19)), (1, .int (Int32.ofInt c))]) (List.forall_mem_cons.mpr ⟨(List.Mem.head _), (List.forall_mem_cons.mpr ⟨(List.Mem.tail _ (List.Mem.head _)), (fun q h => absurd h List.not_mem_nil)⟩)⟩) ?_
            exact kx _ c I F jjBYW jjTKS (rx_mv hq rfl (by omega)) (by first | exact ⟨hi.1, hi.2.1, hi.2.2.1, hi.2.2.2.1, hi.2.2.2.2.1, hi.2.2.2.2.2.1, hi.2.2.2.2.2.2.1, hi.2.2.2.2.2.2.2.1, hi.2.2.2.2.2.2.2.2, g1011, g1036⟩ | omega)
          ·
            refine z_aload_n X (x := A 19) (show cdA 76 42 = some (.aload_n 0, 1, 0, 0, 0) from rfl) (List.Mem.head _) ?_
            refine s_getR X 19 (show cdA 76 43 = some (.getfield 31, 3, 7, 0, 0) from rfl) (by decide) rfl rfl ?_
            refine z_getI X 1 (show cdA 76 46 = some (.getfield 47, 3, 10, 6, 0) from rfl) (by decide) rfl rfl ?_
            have b1037 : ((-3) : Int) ≤ iI t 5 ∧ iI t 5 ≤ 255 := I.1 5
            refine z_bipush X (show cdA 76 49 = some (.bipush 42, 2, 0, 0, 42) from rfl) ?_
            have N1038 : ∀ e1039 : Int, ((((iI t 5) ≠ 42) ∧ e1039 = (-12)) ∨ (((iI t 5) = 42) ∧ e1039 = (-11))) → WS k 61 [(0, .ref (A 19)), (1, .int (Int32.ofInt c))] [.int (Int32.ofInt e1039)] (Wd A dT t) 0 0 := by
              intro e1039 he1039
              have re1039 : (-12) ≤ e1039 ∧ e1039 ≤ (-11) := by omega
              refine z_store_n X (lv' := [(2, .int (Int32.ofInt e1039)), (0, .ref (A 19)), (1, .int (Int32.ofInt c))]) (show cdA 76 61 = some (.istore_n 2, 1, 0, 0, 0) from rfl) (by decide) (fun _ h => h) ?_
              refine z_aload_n X (x := A 19) (show cdA 76 62 = some (.aload_n 0, 1, 0, 0, 0) from rfl) (List.Mem.tail _ (List.Mem.head _)) ?_
              refine s_getR X 19 (show cdA 76 63 = some (.getfield 31, 3, 7, 0, 0) from rfl) (by decide) rfl rfl ?_
              have hcd : chT B N (iI t 4) 42 ∨ chT B N (iI t 4) 47 := (by first | exact Or.inl (hc42.1 (by omega)).1 | exact Or.inr (hc47.1 (by omega)).1)
              have ha1 : iI t 2 = iI t 4 + 1 := by first | exact (hc42.1 (by omega)).2 | exact (hc47.1 (by omega)).2
              have hop : e1039 = opC B (iI t 4) := by have hc := hcd; unfold opC; rcases hc with q | q <;> rw [q.2] <;> omega
              refine z_callV X 1 (rm := rmN 129) (As := []) (st := []) (show cdA 76 66 = some (.invokevirtual 85, 3, 129, 0, 0) from rfl) rfl (by decide) rfl (by rw [E.1, E.2.1, E.2.2.1]; exact c10_step3 G I jjBYW (by first | exact hi.2.2.2.2.2.2.2.1 | omega)) ⟨by rw [E.2.2.2]; exact (show 7 + 1 ≤ (12 + (4 * (r) + 2)) from oq_4941a422 r), by rw [E.2.2.2]; exact (show 8 + (1 + 11) + 121 ≤ (500 + 45 * (4 * (r) + 2)) from oq_a823803b r), by rw [E.2.2.2]; exact Nat.le_refl 0, by rw [E.2.2.2]; exact Nat.le_refl 0⟩ (Nat.le_of_ble_eq_true rfl) (fun vv s1040 hq => ?_) (fun ee s1040 hq => ?_)
              rotate_left
              · obtain ⟨Is1040, Fs1040, JBYW_s1040, JTKS_s1040, hv, hps1040⟩ := hq; cases hv
              obtain ⟨Is1040, Fs1040, JBYW_s1040, JTKS_s1040, hv, hps1040⟩ := hq
              cases hv
              have Gs1040 := fm_ts F Fs1040 (by decide) (by decide)
              have JBYW_s1040 : BYW B N s1040 := BYW_fm Fs1040 (by decide) jjBYW
              have b1042 : (0 : Int) ≤ iI s1040 2 ∧ iI s1040 2 ≤ 200 := Is1040.1 2
              have ws1040_1 : iI s1040 1 = iI t 1 := fm_i Fs1040 (by decide)
              have b1043 : (0 : Int) ≤ iI s1040 4 ∧ iI s1040 4 ≤ 200 := Is1040.1 4
              have b1044 : ((-3) : Int) ≤ iI s1040 5 ∧ iI s1040 5 ≤ 255 := Is1040.1 5
              have b1045 : (0 : Int) ≤ iI s1040 6 ∧ iI s1040 6 ≤ 100000 := Is1040.1 6
              have ws1040_19 : iI s1040 19 = iI t 19 := fm_i Fs1040 (by decide)
              have ws1040_16 : iI s1040 16 = iI t 16 := fm_i Fs1040 (by decide)
              have ws1040_7 : iI s1040 7 = iI t 7 := fm_i Fs1040 (by decide)
              have dls1040 : DL s1040 = DL t := (DL_fm Fs1040 (by decide) (by decide)).trans rfl
              show WS k 69 [(2, .int (Int32.ofInt e1039)), (0, .ref (A 19)), (1, .int (Int32.ofInt c))] [] (Wd A dT s1040) 0 0
              have hs9 : iI s1040 4 = sk B N (iI t 4 + 1) := by rw [hps1040.2.2.1, show iI t 2 = iI t 4 + 1 by omega]
              refine z_aload_n X (x := A 19) (show cdA 76 69 = some (.aload_n 0, 1, 0, 0, 0) from rfl) (List.Mem.tail _ (List.Mem.head _)) ?_
              refine z_callV X 19 (rm := (rkR (4 * (r) + 1))) (As := []) (st := []) (show cdA 76 70 = some (.invokevirtual 119, 3, 77, 0, 0) from rfl) rfl (by decide) rfl (by rw [E.1, E.2.1, E.2.2.1]; exact hU Is1040 JBYW_s1040 JTKS_s1040 (by first | exact hps1040.1 | omega) (by first | exact hps1040.2.1 | omega) (by first | exact oq_abe4e353 p2 ws1040_19 hi.2.2.1 | omega) (by first | exact oq_9b272ea2 ws1040_16 hi.2.2.2.2.2.1 p3 hps1040.2.2.2 ha1 | omega)) ⟨by rw [E.2.2.2]; exact (show (12 + (4 * (r) + 1)) + 1 ≤ (12 + (4 * (r) + 2)) from oq_dbb6b233 r), by rw [E.2.2.2]; exact (show 8 + (2 + 11) + (500 + 45 * (4 * (r) + 1)) ≤ (500 + 45 * (4 * (r) + 2)) from oq_0cecdb5e r), by rw [E.2.2.2]; exact Nat.le_refl 0, by rw [E.2.2.2]; exact Nat.le_refl 0⟩ (Nat.le_of_ble_eq_true rfl) (fun vv s1046 hq => ?_) (fun ee s1046 hq => ?_)
              rotate_left
              · obtain ⟨Is1046, Fs1046, JBYW_s1046, JTKS_s1046, e1047, hv, hrs1046, hps1046⟩ := hq; cases hv
              obtain ⟨Is1046, Fs1046, JBYW_s1046, JTKS_s1046, e1047, hv, hrs1046, hps1046⟩ := hq
              cases hv
              have Gs1046 := fm_ts Gs1040 Fs1046 (by decide) (by decide)
              have JBYW_s1046 : BYW B N s1046 := BYW_fm Fs1046 (by decide) JBYW_s1040
              have b1048 : (0 : Int) ≤ iI s1046 2 ∧ iI s1046 2 ≤ 200 := Is1046.1 2
              have ws1046_1 : iI s1046 1 = iI s1040 1 := fm_i Fs1046 (by decide)
              have b1049 : (0 : Int) ≤ iI s1046 4 ∧ iI s1046 4 ≤ 200 := Is1046.1 4
              have b1050 : ((-3) : Int) ≤ iI s1046 5 ∧ iI s1046 5 ≤ 255 := Is1046.1 5
              have b1051 : (0 : Int) ≤ iI s1046 6 ∧ iI s1046 6 ≤ 100000 := Is1046.1 6
              have b1052 : (0 : Int) ≤ iI s1046 19 ∧ iI s1046 19 ≤ 6 := Is1046.1 19
              have b1053 : (0 : Int) ≤ iI s1046 16 ∧ iI s1046 16 ≤ 200 := Is1046.1 16
              have b1054 : (0 : Int) ≤ iI s1046 7 ∧ iI s1046 7 ≤ 9 := Is1046.1 7
              show WS k 73 [(2, .int (Int32.ofInt e1039)), (0, .ref (A 19)), (1, .int (Int32.ofInt c))] [.int (Int32.ofInt e1047)] (Wd A dT s1046) 0 0
              refine z_if_ne X (t := 78) (show cdA 76 73 = some (.ifCond .ne 5, 3, 1, 0, 0) from rfl) (by decide) hrs1046 (fun g1055 => ?_) (fun g1055 => ?_)
              ·
                refine z_aload_n X (x := A 19) (show cdA 76 78 = some (.aload_n 0, 1, 0, 0, 0) from rfl) (List.Mem.tail _ (List.Mem.head _)) ?_
                refine z_load_n X (x := e1039) (show cdA 76 79 = some (.iload_n 2, 1, 0, 0, 0) from rfl) (List.Mem.head _) ?_
                refine z_callV X 19 (rm := rmN 82) (As := [.int (Int32.ofInt e1039)]) (st := []) (show cdA 76 80 = some (.invokevirtual 103, 3, 82, 0, 0) from rfl) rfl (by decide) rfl (by rw [E.1, E.2.1, E.2.2.1]; exact c7_put3 G Is1046 (by first | exact ⟨oq_b4ff86be re1039.1, oq_8c06164c re1039.2⟩ | omega) (by first | exact oq_cbf4270c g1055 b1049.2 hps1046.1 ws1040_16 hps1040.2.2.2 ha1 hi.2.2.2.2.2.1 p3 | omega)) ⟨by rw [E.2.2.2]; exact (show 6 + 1 ≤ (12 + (4 * (r) + 2)) from oq_d8760254 r), by rw [E.2.2.2]; exact (show 8 + (2 + 11) + 100 ≤ (500 + 45 * (4 * (r) + 2)) from oq_29829ae4 r), by rw [E.2.2.2]; exact Nat.le_refl 0, by rw [E.2.2.2]; exact Nat.le_refl 0⟩ (Nat.le_of_ble_eq_true rfl) (fun vv s1056 hq => ?_) (fun ee s1056 hq => ?_)
                rotate_left
                · obtain ⟨Is1056, Fs1056, hv, hps1056⟩ := hq; cases hv
                obtain ⟨Is1056, Fs1056, hv, hps1056⟩ := hq
                cases hv
                have Gs1056 := fm_ts Gs1046 Fs1056 (by decide) (by decide)
                have JBYW_s1056 : BYW B N s1056 := BYW_fm Fs1056 (by decide) JBYW_s1046
                have JTKS_s1056 : TKS B N s1056 := TKS_fm Fs1056 (by decide) JTKS_s1046
                have ws1056_2 : iI s1056 2 = iI s1046 2 := fm_i Fs1056 (by decide)
                have ws1056_1 : iI s1056 1 = iI s1046 1 := fm_i Fs1056 (by decide)
                have ws1056_4 : iI s1056 4 = iI s1046 4 := fm_i Fs1056 (by decide)
                have ws1056_5 : iI s1056 5 = iI s1046 5 := fm_i Fs1056 (by decide)
                have ws1056_6 : iI s1056 6 = iI s1046 6 := fm_i Fs1056 (by decide)
                have ws1056_19 : iI s1056 19 = iI s1046 19 := fm_i Fs1056 (by decide)
                have b1058 : (0 : Int) ≤ iI s1056 16 ∧ iI s1056 16 ≤ 200 := Is1056.1 16
                have ws1056_7 : iI s1056 7 = iI s1046 7 := fm_i Fs1056 (by decide)
                have dls1056 : DL s1056 = DL s1046 ++ [e1039] := by rw [hps1056.2]
                show WS k 83 [(2, .int (Int32.ofInt e1039)), (0, .ref (A 19)), (1, .int (Int32.ofInt c))] [] (Wd A dT s1056) 0 0
                refine z_inc X (x := c) (lv' := [(1, .int (Int32.ofInt (c + 1))), (2, .int (Int32.ofInt e1039)), (0, .ref (A 19))]) (show cdA 76 83 = some (.iinc 1 1, 3, 0, 0, 0) from rfl) (by decide) (List.Mem.tail _ (List.Mem.tail _ (List.Mem.head _))) (fun _ h => h) ?_
                refine z_goto X (t := 11) (show cdA 76 86 = some (.goto (-75), 3, 0, 0, 0) from rfl) (by decide) ?_
                refine WS_lv (lv := [(0, .ref (A 19)), (1, .int (Int32.ofInt (c + 1)))]) (List.forall_mem_cons.mpr ⟨(List.Mem.tail _ (List.Mem.tail _ (List.Mem.head _))), (List.forall_mem_cons.mpr ⟨(List.Mem.head _), (fun q h => absurd h List.not_mem_nil)⟩)⟩) ?_
                exact ih _ (c + 1) Is1056 Gs1056 JBYW_s1056 JTKS_s1056 (rx_up (q1 := sk B N (iI t 4 + 1)) hq (dls1040) (by have h := hps1046.2.2.2; rw [show iI s1040 4 = sk B N (iI t 4 + 1) by omega, show iI s1040 19 = iI s 19 by omega] at h; exact h) (by omega) dls1056 (by omega) (fun a r r1 h z h2 => rp_go hcd h z (by rw [← hop]; exact h2))) (by first | exact ⟨oq_54f49eb5 hi.1, oq_0cb6ab8a g1009, oq_5901dee4 ws1056_19 g1055 hps1046.1 ws1040_19 hi.2.2.1, oq_c0e77623 ws1056_4 g1055 hps1046.1 hps1040.2.2.2 ha1 hi.2.2.2.1, oq_a2786552 ws1056_4 g1055 hps1046.1, by omega, oq_155da3c6 ws1056_4 g1055 hps1046.1 hps1040.2.2.2 ha1 hi.2.2.2.2.2.2.1, oq_e7b9ecab ws1056_1 ws1056_2 hps1046.2.1, oq_e7b9ecab ws1056_2 ws1056_4 hps1046.2.2.1⟩ | omega) (by first | exact qk_me hm (by decide) (oq_1ab01402 g1009) | omega) kx
              ·
                refine z_const X (show cdA 76 76 = some (.iconst 0, 1, 0, 0, 0) from rfl) ?_
                have hRD : RDc B N 1 (iI s 4) (iI s 19) (DL s) s1046 0 := rx_bad hq (by have h := hps1046.2.2.2; rw [show iI s1040 4 = sk B N (iI t 4 + 1) by omega, show iI s1040 19 = iI s 19 by omega] at h; exact h) (by omega) (by omega) (fun a r h z => rp_bad hcd h z)
                exact w_iret X.1 q hRt (nar_ret (by first | exact Or.inl (by decide) | omega)) (ax_d X (show cdA 76 77 = some (.ireturn, 1, 0, 0, 0) from rfl)) (Nat.zero_le _) (Nat.zero_le _) ⟨_, rfl, Is1046, Gs1046, JBYW_s1046, JTKS_s1046, 0, rfl, (by decide), ⟨rd_post hRD rfl (by first | exact oq_f8a2cf0e hi.2.2.2.2.1 hi.2.2.2.1 | omega) (by first | exact b7.1 | omega) (by first | exact b1053.1 | omega) (fun h9 => absurd rfl h9), by first | exact hps1046.2.1 | omega, by first | exact hps1046.2.2.1 | omega, hRD⟩⟩
            refine z_icmp_ne X (t := 59) (show cdA 76 51 = some (.if_icmp .ne 8, 3, 1, 0, 0) from rfl) (by decide) (rng_to _) (by decide) (fun g1059 => ?_) (fun g1059 => ?_)
            ·
              refine z_bipush X (show cdA 76 59 = some (.bipush (-12), 2, 0, 0, (-12)) from rfl) ?_
              exact N1038 _ (Or.inl ⟨g1059, rfl⟩)
            ·
              refine z_bipush X (show cdA 76 54 = some (.bipush (-11), 2, 0, 0, (-11)) from rfl) ?_
              refine z_goto X (t := 61) (show cdA 76 56 = some (.goto 5, 3, 0, 0, 0) from rfl) (by decide) ?_
              exact N1038 _ (Or.inr (⟨g1059, rfl⟩))
  refine z_aload_n X (x := A 19) (show cdA 76 0 = some (.aload_n 0, 1, 0, 0, 0) from rfl) (List.Mem.head _) ?_
  refine z_callV X 19 (rm := (rkR (4 * (r) + 1))) (As := []) (st := []) (show cdA 76 1 = some (.invokevirtual 119, 3, 77, 0, 0) from rfl) rfl (by decide) rfl (by rw [E.1, E.2.1, E.2.2.1]; exact hU I jBYW jTKS (by first | exact p0 | omega) (by first | exact p1 | omega) (by first | exact p2 | omega) (by first | exact p3 | omega)) ⟨by rw [E.2.2.2]; exact (show (12 + (4 * (r) + 1)) + 1 ≤ (12 + (4 * (r) + 2)) from oq_dbb6b233 r), by rw [E.2.2.2]; exact (show 8 + (2 + 11) + (500 + 45 * (4 * (r) + 1)) ≤ (500 + 45 * (4 * (r) + 2)) from oq_0cecdb5e r), by rw [E.2.2.2]; exact Nat.le_refl 0, by rw [E.2.2.2]; exact Nat.le_refl 0⟩ (Nat.le_of_ble_eq_true rfl) (fun vv s9 hq => ?_) (fun ee s9 hq => ?_)
  rotate_left
  · obtain ⟨Is9, Fs9, JBYW_s9, JTKS_s9, e10, hv, hrs9, hps9⟩ := hq; cases hv
  obtain ⟨Is9, Fs9, JBYW_s9, JTKS_s9, e10, hv, hrs9, hps9⟩ := hq
  cases hv
  have Gs9 := fm_ts F Fs9 (by decide) (by decide)
  have JBYW_s9 : BYW B N s9 := BYW_fm Fs9 (by decide) jBYW
  have b11 : (0 : Int) ≤ iI s9 2 ∧ iI s9 2 ≤ 200 := Is9.1 2
  have ws9_1 : iI s9 1 = iI s 1 := fm_i Fs9 (by decide)
  have b12 : (0 : Int) ≤ iI s9 4 ∧ iI s9 4 ≤ 200 := Is9.1 4
  have b13 : ((-3) : Int) ≤ iI s9 5 ∧ iI s9 5 ≤ 255 := Is9.1 5
  have b14 : (0 : Int) ≤ iI s9 6 ∧ iI s9 6 ≤ 100000 := Is9.1 6
  have b15 : (0 : Int) ≤ iI s9 19 ∧ iI s9 19 ≤ 6 := Is9.1 19
  have b16 : (0 : Int) ≤ iI s9 16 ∧ iI s9 16 ≤ 200 := Is9.1 16
  have b17 : (0 : Int) ≤ iI s9 7 ∧ iI s9 7 ≤ 9 := Is9.1 7
  show WS k 4 [(0, .ref (A 19))] [.int (Int32.ofInt e10)] (Wd A dT s9) 0 0
  refine z_if_ne X (t := 9) (show cdA 76 4 = some (.ifCond .ne 5, 3, 1, 0, 0) from rfl) (by decide) hrs9 (fun g18 => ?_) (fun g18 => ?_)
  ·
    refine z_const X (show cdA 76 9 = some (.iconst 0, 1, 0, 0, 0) from rfl) ?_
    refine z_store_n X (lv' := [(1, .int (Int32.ofInt 0)), (0, .ref (A 19))]) (show cdA 76 10 = some (.istore_n 1, 1, 0, 0, 0) from rfl) (by decide) (fun _ h => h) ?_
    refine WS_lv (lv := [(0, .ref (A 19)), (1, .int (Int32.ofInt 0))]) (List.forall_mem_cons.mpr ⟨(List.Mem.tail _ (List.Mem.head _)), (List.forall_mem_cons.mpr ⟨(List.Mem.head _), (fun q h => absurd h List.not_mem_nil)⟩)⟩) ?_
    refine L11 ((200 - 0 : Int).toNat + 1) s9 0 Is9 Gs9 JBYW_s9 JTKS_s9 (rx_0 hps9.2.2.2 (by omega) (fun r r1 h z h2 => wp_go h z h2)) (by first | exact ⟨by decide, by decide, oq_6259e910 g18 hps9.1, oq_af044290 g18 hps9.1, oq_0f66faba g18 hps9.1, oq_3cd265a3 g18 hps9.1, oq_c32860b4 g18 hps9.1, hps9.2.1, hps9.2.2.1⟩ | omega) (Nat.lt_succ_self _) ?_
    intro s19 x20 Is19 Fs19 JBYW_s19 JTKS_s19 Qs19 hs19
    have b21 : (0 : Int) ≤ iI s19 2 ∧ iI s19 2 ≤ 200 := Is19.1 2
    have b22 : (0 : Int) ≤ iI s19 1 ∧ iI s19 1 ≤ 200 := Is19.1 1
    have b23 : (0 : Int) ≤ iI s19 4 ∧ iI s19 4 ≤ 200 := Is19.1 4
    have b24 : ((-3) : Int) ≤ iI s19 5 ∧ iI s19 5 ≤ 255 := Is19.1 5
    have b25 : (0 : Int) ≤ iI s19 6 ∧ iI s19 6 ≤ 100000 := Is19.1 6
    have b26 : (0 : Int) ≤ iI s19 19 ∧ iI s19 19 ≤ 6 := Is19.1 19
    have b27 : (0 : Int) ≤ iI s19 16 ∧ iI s19 16 ≤ 200 := Is19.1 16
    have b28 : (0 : Int) ≤ iI s19 7 ∧ iI s19 7 ≤ 9 := Is19.1 7
    have hNs19 := JBYW_s19.2.1
    have hWs19 := JBYW_s19.2.2
    refine z_const X (show cdA 76 89 = some (.iconst 1, 1, 0, 0, 0) from rfl) ?_
    have hRD : RDc B N 1 (iI s 4) (iI s 19) (DL s) s19 1 := rx_end Qs19 (fun a => rp_end (fun q => by exact Or.elim q (fun q => by exact (tkw_ch (x := 42) JTKS_s19 (by decide) (by decide) (by decide)).2 (by omega) q) (fun q => by exact (tkw_ch (x := 47) JTKS_s19 (by decide) (by decide) (by decide)).2 (by omega) q)))
    exact w_iret X.1 q hRt (nar_ret (by first | exact Or.inr (by decide) | omega)) (ax_d X (show cdA 76 90 = some (.ireturn, 1, 0, 0, 0) from rfl)) (Nat.zero_le _) (Nat.zero_le _) ⟨_, rfl, Is19, Fs19, JBYW_s19, JTKS_s19, 1, rfl, (by decide), ⟨rd_post hRD rfl (by first | exact oq_f8a2cf0e hs19.2.2.2.2.1 hs19.2.2.2.1 | omega) (by first | exact b7.1 | omega) (by first | exact b27.1 | omega) (fun h9 => by first | exact hs19.2.2.1 | omega), by first | exact hs19.2.2.2.2.2.2.2.1 | omega, by first | exact hs19.2.2.2.2.2.2.2.2.1 | omega, hRD⟩⟩
  ·
    refine z_const X (show cdA 76 7 = some (.iconst 0, 1, 0, 0, 0) from rfl) ?_
    have hRD : RDc B N 1 (iI s 4) (iI s 19) (DL s) s9 0 := rd_bad hps9.2.2.2 (by omega) (by omega) (fun r h z => wp_bad h z)
    exact w_iret X.1 q hRt (nar_ret (by first | exact Or.inl (by decide) | omega)) (ax_d X (show cdA 76 8 = some (.ireturn, 1, 0, 0, 0) from rfl)) (Nat.zero_le _) (Nat.zero_le _) ⟨_, rfl, Is9, Gs9, JBYW_s9, JTKS_s9, 0, rfl, (by decide), ⟨rd_post hRD rfl (by omega) (by first | exact b7.1 | omega) (by first | exact b16.1 | omega) (fun h9 => absurd rfl h9), by first | exact hps9.2.1 | omega, by first | exact hps9.2.2.1 | omega, hRD⟩⟩
set_option maxRecDepth 4000 in
theorem c7_sumS3 (G : GX l s0 D tys a0 dT) {B : Nat → Int} {N : Int} (SF : SF0 s0) (GT : TXw0 s0) {r : Nat} (hP : ∀ {s : PS} , Bd s → BYW B N s → TKS B N s → (iI s 2 ≤ iI s 1) → (iI s 4 ≤ iI s 2) → (6 - iI s 19 ≤ ((r : Nat) : Int)) → (iI s 16 ≤ iI s 4) → CT l s0 D A dT 76 (rkR (4 * (r) + 2)) [.ref (A 19)] s (fun o t => Bd t ∧ Fm [2, 4, 6, 5, 7, 8, 19, 16] [18] s t ∧ BYW B N t ∧ TKS B N t ∧ ∃ e, o = .inl (some (.int (Int32.ofInt e))) ∧ rng e ∧ ((e = 0 ∨ (e = 1 ∧ iI t 19 = iI s 19 ∧ iI s 4 ≤ iI t 4 ∧ iI t 4 ≤ N ∧ iI t 16 + iI s 4 ≤ iI s 16 + iI t 4)) ∧ iI t 2 ≤ iI t 1 ∧ iI t 4 ≤ iI t 2 ∧ RDc B N 1 (iI s 4) (iI s 19) (DL s) t e))) (I : Bd s) (jBYW : BYW B N s) (jTKS : TKS B N s) (p0 : iI s 2 ≤ iI s 1) (p1 : iI s 4 ≤ iI s 2) (p2 : 6 - iI s 19 ≤ ((r : Nat) : Int)) (p3 : iI s 16 ≤ iI s 4) : CT l s0 D A dT 75 (rkR (4 * (r) + 3)) [.ref (A 19)] s (fun o t => Bd t ∧ Fm [2, 4, 6, 5, 7, 8, 19, 16] [18] s t ∧ BYW B N t ∧ TKS B N t ∧ ∃ e, o = .inl (some (.int (Int32.ofInt e))) ∧ rng e ∧ ((e = 0 ∨ (e = 1 ∧ iI t 19 = iI s 19 ∧ iI s 4 ≤ iI t 4 ∧ iI t 4 ≤ N ∧ iI t 16 + iI s 4 ≤ iI s 16 + iI t 4)) ∧ iI t 2 ≤ iI t 1 ∧ iI t 4 ≤ iI t 2 ∧ RDc B N 3 (iI s 4) (iI s 19) (DL s) t e)) := by
  refine ct_ofX G (by decide) (Nat.le_of_ble_eq_true rfl) (fun k X E ET hRt hXt q => ?_)
  show WS k 0 [(0, .ref (A 19))] [] _ 0 0
  have F : Fm [2, 4, 6, 5, 7, 8, 19, 16] [18] s s := fm_rf _ _ s
  have hN := jBYW.2.1
  have hW := jBYW.2.2
  have hdg := tkw_dg jTKS
  have hwd := tkw_wd jTKS
  have b1 : (0 : Int) ≤ iI s 2 ∧ iI s 2 ≤ 200 := I.1 2
  have b2 : (0 : Int) ≤ iI s 1 ∧ iI s 1 ≤ 200 := I.1 1
  have b3 : (0 : Int) ≤ iI s 4 ∧ iI s 4 ≤ 200 := I.1 4
  have b4 : ((-3) : Int) ≤ iI s 5 ∧ iI s 5 ≤ 255 := I.1 5
  have b5 : (0 : Int) ≤ iI s 6 ∧ iI s 6 ≤ 100000 := I.1 6
  have b6 : (0 : Int) ≤ iI s 19 ∧ iI s 19 ≤ 6 := I.1 19
  have b7 : (0 : Int) ≤ iI s 16 ∧ iI s 16 ≤ 200 := I.1 16
  have b8 : (0 : Int) ≤ iI s 7 ∧ iI s 7 ≤ 9 := I.1 7
  have L11 : ∀ (n : Nat) (t : PS) (c : Int), Bd t → Fm [2, 4, 6, 5, 7, 8, 19, 16] [18] s t → BYW B N t → TKS B N t → (RSc B N 4 3 (iI s 4) (iI s 19) (DL s) t) → (0 ≤ c ∧ c ≤ 200 ∧ iI t 19 = iI s 19 ∧ iI s 4 ≤ iI t 4 ∧ iI t 4 ≤ N ∧ iI t 16 + iI s 4 ≤ iI s 16 + iI t 4 ∧ c + iI s 4 ≤ iI t 4 ∧ iI t 2 ≤ iI t 1 ∧ iI t 4 ≤ iI t 2) → (200 - c : Int).toNat < n → (∀ (t' : PS) (c' : Int), Bd t' → Fm [2, 4, 6, 5, 7, 8, 19, 16] [18] s t' → BYW B N t' → TKS B N t' → (RSc B N 4 3 (iI s 4) (iI s 19) (DL s) t') → (0 ≤ c' ∧ c' ≤ 200 ∧ iI t' 19 = iI s 19 ∧ iI s 4 ≤ iI t' 4 ∧ iI t' 4 ≤ N ∧ iI t' 16 + iI s 4 ≤ iI s 16 + iI t' 4 ∧ c' + iI s 4 ≤ iI t' 4 ∧ iI t' 2 ≤ iI t' 1 ∧ iI t' 4 ≤ iI t' 2 ∧ iI t' 5 ≠ 43 ∧ iI t' 5 ≠ 45) → WS k 89 [(0, .ref (A 19)), (1, .int (Int32.ofInt c'))] [] (Wd A dT t') 0 0) → WS k 11 [(0, .ref (A 19)), (1, .int (Int32.ofInt c))] [] (Wd A dT t) 0 0 := by
    intro n
    induction n with
    | zero =>
      intro t c I F jjBYW jjTKS hq hi hm kx
      exact absurd hm (Nat.not_lt_zero _)
    | succ n ih =>
      intro t c I F jjBYW jjTKS hq hi hm kx
      have b1001 : (0 : Int) ≤ iI t 2 ∧ iI t 2 ≤ 200 := I.1 2
      have b1002 : (0 : Int) ≤ iI t 1 ∧ iI t 1 ≤ 200 := I.1 1
      have b1003 : (0 : Int) ≤ iI t 4 ∧ iI t 4 ≤ 200 := I.1 4
      have b1004 : ((-3) : Int) ≤ iI t 5 ∧ iI t 5 ≤ 255 := I.1 5
      have b1005 : (0 : Int) ≤ iI t 6 ∧ iI t 6 ≤ 100000 := I.1 6
      have b1006 : (0 : Int) ≤ iI t 19 ∧ iI t 19 ≤ 6 := I.1 19
      have b1007 : (0 : Int) ≤ iI t 16 ∧ iI t 16 ≤ 200 := I.1 16
      have b1008 : (0 : Int) ≤ iI t 7 ∧ iI t 7 ≤ 9 := I.1 7
      have hN := jjBYW.2.1
      have hW := jjBYW.2.2
      have hwt := tkw_wd jjTKS
      have hlt := tkw_end jjTKS
      have hc43 := tkw_ch (x := 43) jjTKS (by decide) (by decide) (by decide)
      have hc45 := tkw_ch (x := 45) jjTKS (by decide) (by decide) (by decide)
      refine z_load_n X (x := c) (show cdA 75 11 = some (.iload_n 1, 1, 0, 0, 0) from rfl) (List.Mem.tail _ (List.Mem.head _)) ?_
      refine z_sipush X (show cdA 75 12 = some (.sipush 200, 3, 0, 0, 200) from rfl) ?_
      refine z_icmp_ge X (t := 89) (show cdA 75 15 = some (.if_icmp .ge 74, 3, 3, 0, 0) from rfl) (by decide) ⟨by first | exact oq_fa4e5087 hi.1 | omega, by first | exact oq_52af2b96 hi.2.1 | omega⟩ (by decide) (fun g1009 => ?_) (fun g1009 => ?_)
      ·
        refine WS_lv (lv := [(0, .ref (A 19)), (1, .int (Int32.ofInt c))]) (List.forall_mem_cons.mpr ⟨(List.Mem.head _), (List.forall_mem_cons.mpr ⟨(List.Mem.tail _ (List.Mem.head _)), (fun q h => absurd h List.not_mem_nil)⟩)⟩) ?_
        exact kx _ c I F jjBYW jjTKS (rx_mv hq rfl (by omega)) (by first | exact ⟨hi.1, hi.2.1, hi.2.2.1, hi.2.2.2.1, hi.2.2.2.2.1, hi.2.2.2.2.2.1, hi.2.2.2.2.2.2.1, hi.2.2.2.2.2.2.2.1, hi.2.2.2.2.2.2.2.2, by omega, by omega⟩ | omega)
      ·
        refine z_aload_n X (x := A 19) (show cdA 75 18 = some (.aload_n 0, 1, 0, 0, 0) from rfl) (List.Mem.head _) ?_
        refine s_getR X 19 (show cdA 75 19 = some (.getfield 31, 3, 7, 0, 0) from rfl) (by decide) rfl rfl ?_
        refine z_getI X 1 (show cdA 75 22 = some (.getfield 47, 3, 10, 6, 0) from rfl) (by decide) rfl rfl ?_
        have b1010 : ((-3) : Int) ≤ iI t 5 ∧ iI t 5 ≤ 255 := I.1 5
        refine z_bipush X (show cdA 75 25 = some (.bipush 43, 2, 0, 0, 43) from rfl) ?_
        refine z_icmp_eq X (t := 42) (show cdA 75 27 = some (.if_icmp .eq 15, 3, 0, 0, 0) from rfl) (by decide) (rng_to _) (by decide) (fun g1011 => ?_) (fun g1011 => ?_)
        ·
          refine z_aload_n X (x := A 19) (show cdA 75 42 = some (.aload_n 0, 1, 0, 0, 0) from rfl) (List.Mem.head _) ?_
          refine s_getR X 19 (show cdA 75 43 = some (.getfield 31, 3, 7, 0, 0) from rfl) (by decide) rfl rfl ?_
          refine z_getI X 1 (show cdA 75 46 = some (.getfield 47, 3, 10, 6, 0) from rfl) (by decide) rfl rfl ?_
          have b1012 : ((-3) : Int) ≤ iI t 5 ∧ iI t 5 ≤ 255 := I.1 5
          refine z_bipush X (show cdA 75 49 = some (.bipush 43, 2, 0, 0, 43) from rfl) ?_
          have N1013 : ∀ e1014 : Int, ((((iI t 5) ≠ 43) ∧ e1014 = (-10)) ∨ (((iI t 5) = 43) ∧ e1014 = (-9))) → WS k 61 [(0, .ref (A 19)), (1, .int (Int32.ofInt c))] [.int (Int32.ofInt e1014)] (Wd A dT t) 0 0 := by
            intro e1014 he1014
            have re1014 : (-10) ≤ e1014 ∧ e1014 ≤ (-9) := by omega
            refine z_store_n X (lv' := [(2, .int (Int32.ofInt e1014)), (0, .ref (A 19)), (1, .int (Int32.ofInt c))]) (show cdA 75 61 = some (.istore_n 2, 1, 0, 0, 0) from rfl) (by decide) (fun _ h => h) ?_
            refine z_aload_n X (x := A 19) (show cdA 75 62 = some (.aload_n 0, 1, 0, 0, 0) from rfl) (List.Mem.tail _ (List.Mem.head _)) ?_
            refine s_getR X 19 (show cdA 75 63 = some (.getfield 31, 3, 7, 0, 0) from rfl) (by decide) rfl rfl ?_
            have hcd : chT B N (iI t 4) 43 ∨ chT B N (iI t 4) 45 := (by first | exact Or.inl (hc43.1 (by omega)).1 | exact Or.inr (hc45.1 (by omega)).1)
            have ha1 : iI t 2 = iI t 4 + 1 := by first | exact (hc43.1 (by omega)).2 | exact (hc45.1 (by omega)).2
            have hop : e1014 = opC B (iI t 4) := by have hc := hcd; unfold opC; rcases hc with q | q <;> rw [q.2] <;> omega
            refine z_callV X 1 (rm := rmN 129) (As := []) (st := []) (show cdA 75 66 = some (.invokevirtual 85, 3, 129, 0, 0) from rfl) rfl (by decide) rfl (by rw [E.1, E.2.1, E.2.2.1]; exact c10_step3 G I jjBYW (by first | exact hi.2.2.2.2.2.2.2.1 | omega)) ⟨by rw [E.2.2.2]; exact (show 7 + 1 ≤ (12 + (4 * (r) + 3)) from oq_c7636a98 r), by rw [E.2.2.2]; exact (show 8 + (1 + 11) + 121 ≤ (500 + 45 * (4 * (r) + 3)) from oq_aba64d1b r), by rw [E.2.2.2]; exact Nat.le_refl 0, by rw [E.2.2.2]; exact Nat.le_refl 0⟩ (Nat.le_of_ble_eq_true rfl) (fun vv s1015 hq => ?_) (fun ee s1015 hq => ?_)
            rotate_left
            · obtain ⟨Is1015, Fs1015, JBYW_s1015, JTKS_s1015, hv, hps1015⟩ := hq; cases hv
            obtain ⟨Is1015, Fs1015, JBYW_s1015, JTKS_s1015, hv, hps1015⟩ := hq
            cases hv
            have Gs1015 := fm_ts F Fs1015 (by decide) (by decide)
            have JBYW_s1015 : BYW B N s1015 := BYW_fm Fs1015 (by decide) jjBYW
            have b1017 : (0 : Int) ≤ iI s1015 2 ∧ iI s1015 2 ≤ 200 := Is1015.1 2
            have ws1015_1 : iI s1015 1 = iI t 1 := fm_i Fs1015 (by decide)
            have b1018 : (0 : Int) ≤ iI s1015 4 ∧ iI s1015 4 ≤ 200 := Is1015.1 4
            have b1019 : ((-3) : Int) ≤ iI s1015 5 ∧ iI s1015 5 ≤ 255 := Is1015.1 5
            have b1020 : (0 : Int) ≤ iI s1015 6 ∧ iI s1015 6 ≤ 100000 := Is1015.1 6
            have ws1015_19 : iI s1015 19 = iI t 19 := fm_i Fs1015 (by decide)
            have ws1015_16 : iI s1015 16 = iI t 16 := fm_i Fs1015 (by decide)
            have ws1015_7 : iI s1015 7 = iI t 7 := fm_i Fs1015 (by decide)
            have dls1015 : DL s1015 = DL t := (DL_fm Fs1015 (by decide) (by decide)).trans rfl
            show WS k 69 [(2, .int (Int32.ofInt e1014)), (0, .ref (A 19)), (1, .int (Int32.ofInt c))] [] (Wd A dT s1015) 0 0
            have hs9 : iI s1015 4 = sk B N (iI t 4 + 1) := by rw [hps1015.2.2.1, show iI t 2 = iI t 4 + 1 by omega]
            refine z_aload_n X (x := A 19) (show cdA 75 69 = some (.aload_n 0, 1, 0, 0, 0) from rfl) (List.Mem.tail _ (List.Mem.head _)) ?_
            refine z_callV X 19 (rm := (rkR (4 * (r) + 2))) (As := []) (st := []) (show cdA 75 70 = some (.invokevirtual 116, 3, 76, 0, 0) from rfl) rfl (by decide) rfl (by rw [E.1, E.2.1, E.2.2.1]; exact hP Is1015 JBYW_s1015 JTKS_s1015 (by first | exact hps1015.1 | omega) (by first | exact hps1015.2.1 | omega) (by first | exact oq_abe4e353 p2 ws1015_19 hi.2.2.1 | omega) (by first | exact oq_9b272ea2 ws1015_16 hi.2.2.2.2.2.1 p3 hps1015.2.2.2 ha1 | omega)) ⟨by rw [E.2.2.2]; exact (show (12 + (4 * (r) + 2)) + 1 ≤ (12 + (4 * (r) + 3)) from oq_2e478062 r), by rw [E.2.2.2]; exact (show 8 + (3 + 11) + (500 + 45 * (4 * (r) + 2)) ≤ (500 + 45 * (4 * (r) + 3)) from oq_cdd7b804 r), by rw [E.2.2.2]; exact Nat.le_refl 0, by rw [E.2.2.2]; exact Nat.le_refl 0⟩ (Nat.le_of_ble_eq_true rfl) (fun vv s1021 hq => ?_) (fun ee s1021 hq => ?_)
            rotate_left
            · obtain ⟨Is1021, Fs1021, JBYW_s1021, JTKS_s1021, e1022, hv, hrs1021, hps1021⟩ := hq; cases hv
            obtain ⟨Is1021, Fs1021, JBYW_s1021, JTKS_s1021, e1022, hv, hrs1021, hps1021⟩ := hq
            cases hv
            have Gs1021 := fm_ts Gs1015 Fs1021 (by decide) (by decide)
            have JBYW_s1021 : BYW B N s1021 := BYW_fm Fs1021 (by decide) JBYW_s1015
            have b1023 : (0 : Int) ≤ iI s1021 2 ∧ iI s1021 2 ≤ 200 := Is1021.1 2
            have ws1021_1 : iI s1021 1 = iI s1015 1 := fm_i Fs1021 (by decide)
            have b1024 : (0 : Int) ≤ iI s1021 4 ∧ iI s1021 4 ≤ 200 := Is1021.1 4
            have b1025 : ((-3) : Int) ≤ iI s1021 5 ∧ iI s1021 5 ≤ 255 := Is1021.1 5
            have b1026 : (0 : Int) ≤ iI s1021 6 ∧ iI s1021 6 ≤ 100000 := Is1021.1 6
            have b1027 : (0 : Int) ≤ iI s1021 19 ∧ iI s1021 19 ≤ 6 := Is1021.1 19
            have b1028 : (0 : Int) ≤ iI s1021 16 ∧ iI s1021 16 ≤ 200 := Is1021.1 16
            have b1029 : (0 : Int) ≤ iI s1021 7 ∧ iI s1021 7 ≤ 9 := Is1021.1 7
            show WS k 73 [(2, .int (Int32.ofInt e1014)), (0, .ref (A 19)), (1, .int (Int32.ofInt c))] [.int (Int32.ofInt e1022)] (Wd A dT s1021) 0 0
            refine z_if_ne X (t := 78) (show cdA 75 73 = some (.ifCond .ne 5, 3, 1, 0, 0) from rfl) (by decide) hrs1021 (fun g1030 => ?_) (fun g1030 => ?_)
            ·
              refine z_aload_n X (x := A 19) (show cdA 75 78 = some (.aload_n 0, 1, 0, 0, 0) from rfl) (List.Mem.tail _ (List.Mem.head _)) ?_
              refine z_load_n X (x := e1014) (show cdA 75 79 = some (.iload_n 2, 1, 0, 0, 0) from rfl) (List.Mem.head _) ?_
              refine z_callV X 19 (rm := rmN 82) (As := [.int (Int32.ofInt e1014)]) (st := []) (show cdA 75 80 = some (.invokevirtual 103, 3, 82, 0, 0) from rfl) rfl (by decide) rfl (by rw [E.1, E.2.1, E.2.2.1]; exact c7_put3 G Is1021 (by first | exact ⟨oq_3d7a4679 re1014.1, oq_8ddf7954 re1014.2⟩ | omega) (by first | exact oq_cbf4270c g1030 b1024.2 hps1021.1 ws1015_16 hps1015.2.2.2 ha1 hi.2.2.2.2.2.1 p3 | omega)) ⟨by rw [E.2.2.2]; exact (show 6 + 1 ≤ (12 + (4 * (r) + 3)) from oq_1fdce876 r), by rw [E.2.2.2]; exact (show 8 + (2 + 11) + 100 ≤ (500 + 45 * (4 * (r) + 3)) from oq_55a309dd r), by rw [E.2.2.2]; exact Nat.le_refl 0, by rw [E.2.2.2]; exact Nat.le_refl 0⟩ (Nat.le_of_ble_eq_true rfl) (fun vv s1031 hq => ?_) (fun ee s1031 hq => ?_)
              rotate_left
              · obtain ⟨Is1031, Fs1031, hv, hps1031⟩ := hq; cases hv
              obtain ⟨Is1031, Fs1031, hv, hps1031⟩ := hq
              cases hv
              have Gs1031 := fm_ts Gs1021 Fs1031 (by decide) (by decide)
              have JBYW_s1031 : BYW B N s1031 := BYW_fm Fs1031 (by decide) JBYW_s1021
              have JTKS_s1031 : TKS B N s1031 := TKS_fm Fs1031 (by decide) JTKS_s1021
              have ws1031_2 : iI s1031 2 = iI s1021 2 := fm_i Fs1031 (by decide)
              have ws1031_1 : iI s1031 1 = iI s1021 1 := fm_i Fs1031 (by decide)
              have ws1031_4 : iI s1031 4 = iI s1021 4 := fm_i Fs1031 (by decide)
              have ws1031_5 : iI s1031 5 = iI s1021 5 := fm_i Fs1031 (by decide)
              have ws1031_6 : iI s1031 6 = iI s1021 6 := fm_i Fs1031 (by decide)
              have ws1031_19 : iI s1031 19 = iI s1021 19 := fm_i Fs1031 (by decide)
              have b1033 : (0 : Int) ≤ iI s1031 16 ∧ iI s1031 16 ≤ 200 := Is1031.1 16
              have ws1031_7 : iI s1031 7 = iI s1021 7 := fm_i Fs1031 (by decide)
              have dls1031 : DL s1031 = DL s1021 ++ [e1014] := by rw [hps1031.2]
              show WS k 83 [(2, .int (Int32.ofInt e1014)), (0, .ref (A 19)), (1, .int (Int32.ofInt c))] [] (Wd A dT s1031) 0 0
              refine z_inc X (x := c) (lv' := [(1, .int (Int32.ofInt (c + 1))), (2, .int (Int32.ofInt e1014)), (0, .ref (A 19))]) (show cdA 75 83 = some (.iinc 1 1, 3, 0, 0, 0) from rfl) (by decide) (List.Mem.tail _ (List.Mem.tail _ (List.Mem.head _))) (fun _ h => h) ?_
              refine z_goto X (t := 11) (show cdA 75 86 = some (.goto (-75), 3, 0, 0, 0) from rfl) (by decide) ?_
              refine WS_lv (lv := [(0, .ref (A 19)), (1, .int (Int32.ofInt (c + 1)))]) (List.forall_mem_cons.mpr ⟨(List.Mem.tail _ (List.Mem.tail _ (List.Mem.head _))), (List.forall_mem_cons.mpr ⟨(List.Mem.head _), (fun q h => absurd h List.not_mem_nil)⟩)⟩) ?_
              exact ih _ (c + 1) Is1031 Gs1031 JBYW_s1031 JTKS_s1031 (rx_up (q1 := sk B N (iI t 4 + 1)) hq (dls1015) (by have h := hps1021.2.2.2; rw [show iI s1015 4 = sk B N (iI t 4 + 1) by omega, show iI s1015 19 = iI s 19 by omega] at h; exact h) (by omega) dls1031 (by omega) (fun a r r1 h z h2 => rs_go hcd h z (by rw [← hop]; exact h2))) (by first | exact ⟨oq_54f49eb5 hi.1, oq_0cb6ab8a g1009, oq_5901dee4 ws1031_19 g1030 hps1021.1 ws1015_19 hi.2.2.1, oq_c0e77623 ws1031_4 g1030 hps1021.1 hps1015.2.2.2 ha1 hi.2.2.2.1, oq_a2786552 ws1031_4 g1030 hps1021.1, by omega, oq_155da3c6 ws1031_4 g1030 hps1021.1 hps1015.2.2.2 ha1 hi.2.2.2.2.2.2.1, oq_e7b9ecab ws1031_1 ws1031_2 hps1021.2.1, oq_e7b9ecab ws1031_2 ws1031_4 hps1021.2.2.1⟩ | omega) (by first | exact qk_me hm (by decide) (oq_1ab01402 g1009) | omega) kx
            ·
              refine z_const X (show cdA 75 76 = some (.iconst 0, 1, 0, 0, 0) from rfl) ?_
              have hRD : RDc B N 3 (iI s 4) (iI s 19) (DL s) s1021 0 := rx_bad hq (by have h := hps1021.2.2.2; rw [show iI s1015 4 = sk B N (iI t 4 + 1) by omega, show iI s1015 19 = iI s 19 by omega] at h; exact h) (by omega) (by omega) (fun a r h z => rs_bad hcd h z)
              exact w_iret X.1 q hRt (nar_ret (by first | exact Or.inl (by decide) | omega)) (ax_d X (show cdA 75 77 = some (.ireturn, 1, 0, 0, 0) from rfl)) (Nat.zero_le _) (Nat.zero_le _) ⟨_, rfl, Is1021, Gs1021, JBYW_s1021, JTKS_s1021, 0, rfl, (by decide), ⟨rd_post hRD rfl (by first | exact oq_f8a2cf0e hi.2.2.2.2.1 hi.2.2.2.1 | omega) (by first | exact b7.1 | omega) (by first | exact b1028.1 | omega) (fun h9 => absurd rfl h9), by first | exact hps1021.2.1 | omega, by first | exact hps1021.2.2.1 | omega, hRD⟩⟩
          refine z_icmp_ne X (t := 59) (show cdA 75 51 = some (.if_icmp .ne 8, 3, 1, 0, 0) from rfl) (by decide) (rng_to _) (by decide) (fun g1034 => ?_) (fun g1034 => ?_)
          ·
            refine z_bipush X (show cdA 75 59 = some (.bipush (-10), 2, 0, 0, (-10)) from rfl) ?_
            exact N1013 _ (Or.inl ⟨g1034, rfl⟩)
          ·
            refine z_bipush X (show cdA 75 54 = some (.bipush (-9), 2, 0, 0, (-9)) from rfl) ?_
            refine z_goto X (t := 61) (show cdA 75 56 = some (.goto 5, 3, 0, 0, 0) from rfl) (by decide) ?_
            exact N1013 _ (Or.inr (⟨g1034, rfl⟩))
        ·
          refine z_aload_n X (x := A 19) (show cdA 75 30 = some (.aload_n 0, 1, 0, 0, 0) from rfl) (List.Mem.head _) ?_
          refine s_getR X 19 (show cdA 75 31 = some (.getfield 31, 3, 7, 0, 0) from rfl) (by decide) rfl rfl ?_
          refine z_getI X 1 (show cdA 75 34 = some (.getfield 47, 3, 10, 6, 0) from rfl) (by decide) rfl rfl ?_
          have b1035 : ((-3) : Int) ≤ iI t 5 ∧ iI t 5 ≤ 255 := I.1 5
          refine z_bipush X (show cdA 75 37 = some (.bipush 45, 2, 0, 0, 45) from rfl) ?_
          refine z_icmp_ne X (t := 89) (show cdA 75 39 = some (.if_icmp .ne 50, 3, 1, 0, 0) from rfl) (by decide) (rng_to _) (by decide) (fun g1036 => ?_) (fun g1036 => ?_)
          ·
            refine WS_lv (lv := [(0, .ref (A 19)), (1, .int (Int32.ofInt c))]) (List.forall_mem_cons.mpr ⟨(List.Mem.head _), (List.forall_mem_cons.mpr ⟨(List.Mem.tail _ (List.Mem.head _)), (fun q h => absurd h List.not_mem_nil)⟩)⟩) ?_
            exact kx _ c I F jjBYW jjTKS (rx_mv hq rfl (by omega)) (by first | exact ⟨hi.1, hi.2.1, hi.2.2.1, hi.2.2.2.1, hi.2.2.2.2.1, hi.2.2.2.2.2.1, hi.2.2.2.2.2.2.1, hi.2.2.2.2.2.2.2.1, hi.2.2.2.2.2.2.2.2, g1011, g1036⟩ | omega)
          ·
            refine z_aload_n X (x := A 19) (show cdA 75 42 = some (.aload_n 0, 1, 0, 0, 0) from rfl) (List.Mem.head _) ?_
            refine s_getR X 19 (show cdA 75 43 = some (.getfield 31, 3, 7, 0, 0) from rfl) (by decide) rfl rfl ?_
            refine z_getI X 1 (show cdA 75 46 = some (.getfield 47, 3, 10, 6, 0) from rfl) (by decide) rfl rfl ?_
            have b1037 : ((-3) : Int) ≤ iI t 5 ∧ iI t 5 ≤ 255 := I.1 5
            refine z_bipush X (show cdA 75 49 = some (.bipush 43, 2, 0, 0, 43) from rfl) ?_
            have N1038 : ∀ e1039 : Int, ((((iI t 5) ≠ 43) ∧ e1039 = (-10)) ∨ (((iI t 5) = 43) ∧ e1039 = (-9))) → WS k 61 [(0, .ref (A 19)), (1, .int (Int32.ofInt c))] [.int (Int32.ofInt e1039)] (Wd A dT t) 0 0 := by
              intro e1039 he1039
              have re1039 : (-10) ≤ e1039 ∧ e1039 ≤ (-9) := by omega
              refine z_store_n X (lv' := [(2, .int (Int32.ofInt e1039)), (0, .ref (A 19)), (1, .int (Int32.ofInt c))]) (show cdA 75 61 = some (.istore_n 2, 1, 0, 0, 0) from rfl) (by decide) (fun _ h => h) ?_
              refine z_aload_n X (x := A 19) (show cdA 75 62 = some (.aload_n 0, 1, 0, 0, 0) from rfl) (List.Mem.tail _ (List.Mem.head _)) ?_
              refine s_getR X 19 (show cdA 75 63 = some (.getfield 31, 3, 7, 0, 0) from rfl) (by decide) rfl rfl ?_
              have hcd : chT B N (iI t 4) 43 ∨ chT B N (iI t 4) 45 := (by first | exact Or.inl (hc43.1 (by omega)).1 | exact Or.inr (hc45.1 (by omega)).1)
              have ha1 : iI t 2 = iI t 4 + 1 := by first | exact (hc43.1 (by omega)).2 | exact (hc45.1 (by omega)).2
              have hop : e1039 = opC B (iI t 4) := by have hc := hcd; unfold opC; rcases hc with q | q <;> rw [q.2] <;> omega
              refine z_callV X 1 (rm := rmN 129) (As := []) (st := []) (show cdA 75 66 = some (.invokevirtual 85, 3, 129, 0, 0) from rfl) rfl (by decide) rfl (by rw [E.1, E.2.1, E.2.2.1]; exact c10_step3 G I jjBYW (by first | exact hi.2.2.2.2.2.2.2.1 | omega)) ⟨by rw [E.2.2.2]; exact (show 7 + 1 ≤ (12 + (4 * (r) + 3)) from oq_c7636a98 r), by rw [E.2.2.2]; exact (show 8 + (1 + 11) + 121 ≤ (500 + 45 * (4 * (r) + 3)) from oq_aba64d1b r), by rw [E.2.2.2]; exact Nat.le_refl 0, by rw [E.2.2.2]; exact Nat.le_refl 0⟩ (Nat.le_of_ble_eq_true rfl) (fun vv s1040 hq => ?_) (fun ee s1040 hq => ?_)
              rotate_left
              · obtain ⟨Is1040, Fs1040, JBYW_s1040, JTKS_s1040, hv, hps1040⟩ := hq; cases hv
              obtain ⟨Is1040, Fs1040, JBYW_s1040, JTKS_s1040, hv, hps1040⟩ := hq
              cases hv
              have Gs1040 := fm_ts F Fs1040 (by decide) (by decide)
              have JBYW_s1040 : BYW B N s1040 := BYW_fm Fs1040 (by decide) jjBYW
              have b1042 : (0 : Int) ≤ iI s1040 2 ∧ iI s1040 2 ≤ 200 := Is1040.1 2
              have ws1040_1 : iI s1040 1 = iI t 1 := fm_i Fs1040 (by decide)
              have b1043 : (0 : Int) ≤ iI s1040 4 ∧ iI s1040 4 ≤ 200 := Is1040.1 4
              have b1044 : ((-3) : Int) ≤ iI s1040 5 ∧ iI s1040 5 ≤ 255 := Is1040.1 5
              have b1045 : (0 : Int) ≤ iI s1040 6 ∧ iI s1040 6 ≤ 100000 := Is1040.1 6
              have ws1040_19 : iI s1040 19 = iI t 19 := fm_i Fs1040 (by decide)
              have ws1040_16 : iI s1040 16 = iI t 16 := fm_i Fs1040 (by decide)
              have ws1040_7 : iI s1040 7 = iI t 7 := fm_i Fs1040 (by decide)
              have dls1040 : DL s1040 = DL t := (DL_fm Fs1040 (by decide) (by decide)).trans rfl
              show WS k 69 [(2, .int (Int32.ofInt e1039)), (0, .ref (A 19)), (1, .int (Int32.ofInt c))] [] (Wd A dT s1040) 0 0
              have hs9 : iI s1040 4 = sk B N (iI t 4 + 1) := by rw [hps1040.2.2.1, show iI t 2 = iI t 4 + 1 by omega]
              refine z_aload_n X (x := A 19) (show cdA 75 69 = some (.aload_n 0, 1, 0, 0, 0) from rfl) (List.Mem.tail _ (List.Mem.head _)) ?_
              refine z_callV X 19 (rm := (rkR (4 * (r) + 2))) (As := []) (st := []) (show cdA 75 70 = some (.invokevirtual 116, 3, 76, 0, 0) from rfl) rfl (by decide) rfl (by rw [E.1, E.2.1, E.2.2.1]; exact hP Is1040 JBYW_s1040 JTKS_s1040 (by first | exact hps1040.1 | omega) (by first | exact hps1040.2.1 | omega) (by first | exact oq_abe4e353 p2 ws1040_19 hi.2.2.1 | omega) (by first | exact oq_9b272ea2 ws1040_16 hi.2.2.2.2.2.1 p3 hps1040.2.2.2 ha1 | omega)) ⟨by rw [E.2.2.2]; exact (show (12 + (4 * (r) + 2)) + 1 ≤ (12 + (4 * (r) + 3)) from oq_2e478062 r), by rw [E.2.2.2]; exact (show 8 + (3 + 11) + (500 + 45 * (4 * (r) + 2)) ≤ (500 + 45 * (4 * (r) + 3)) from oq_cdd7b804 r), by rw [E.2.2.2]; exact Nat.le_refl 0, by rw [E.2.2.2]; exact Nat.le_refl 0⟩ (Nat.le_of_ble_eq_true rfl) (fun vv s1046 hq => ?_) (fun ee s1046 hq => ?_)
              rotate_left
              · obtain ⟨Is1046, Fs1046, JBYW_s1046, JTKS_s1046, e1047, hv, hrs1046, hps1046⟩ := hq; cases hv
              obtain ⟨Is1046, Fs1046, JBYW_s1046, JTKS_s1046, e1047, hv, hrs1046, hps1046⟩ := hq
              cases hv
              have Gs1046 := fm_ts Gs1040 Fs1046 (by decide) (by decide)
              have JBYW_s1046 : BYW B N s1046 := BYW_fm Fs1046 (by decide) JBYW_s1040
              have b1048 : (0 : Int) ≤ iI s1046 2 ∧ iI s1046 2 ≤ 200 := Is1046.1 2
              have ws1046_1 : iI s1046 1 = iI s1040 1 := fm_i Fs1046 (by decide)
              have b1049 : (0 : Int) ≤ iI s1046 4 ∧ iI s1046 4 ≤ 200 := Is1046.1 4
              have b1050 : ((-3) : Int) ≤ iI s1046 5 ∧ iI s1046 5 ≤ 255 := Is1046.1 5
              have b1051 : (0 : Int) ≤ iI s1046 6 ∧ iI s1046 6 ≤ 100000 := Is1046.1 6
              have b1052 : (0 : Int) ≤ iI s1046 19 ∧ iI s1046 19 ≤ 6 := Is1046.1 19
              have b1053 : (0 : Int) ≤ iI s1046 16 ∧ iI s1046 16 ≤ 200 := Is1046.1 16
              have b1054 : (0 : Int) ≤ iI s1046 7 ∧ iI s1046 7 ≤ 9 := Is1046.1 7
              show WS k 73 [(2, .int (Int32.ofInt e1039)), (0, .ref (A 19)), (1, .int (Int32.ofInt c))] [.int (Int32.ofInt e1047)] (Wd A dT s1046) 0 0
              refine z_if_ne X (t := 78) (show cdA 75 73 = some (.ifCond .ne 5, 3, 1, 0, 0) from rfl) (by decide) hrs1046 (fun g1055 => ?_) (fun g1055 => ?_)
              ·
                refine z_aload_n X (x := A 19) (show cdA 75 78 = some (.aload_n 0, 1, 0, 0, 0) from rfl) (List.Mem.tail _ (List.Mem.head _)) ?_
                refine z_load_n X (x := e1039) (show cdA 75 79 = some (.iload_n 2, 1, 0, 0, 0) from rfl) (List.Mem.head _) ?_
                refine z_callV X 19 (rm := rmN 82) (As := [.int (Int32.ofInt e1039)]) (st := []) (show cdA 75 80 = some (.invokevirtual 103, 3, 82, 0, 0) from rfl) rfl (by decide) rfl (by rw [E.1, E.2.1, E.2.2.1]; exact c7_put3 G Is1046 (by first | exact ⟨oq_3d7a4679 re1039.1, oq_8ddf7954 re1039.2⟩ | omega) (by first | exact oq_cbf4270c g1055 b1049.2 hps1046.1 ws1040_16 hps1040.2.2.2 ha1 hi.2.2.2.2.2.1 p3 | omega)) ⟨by rw [E.2.2.2]; exact (show 6 + 1 ≤ (12 + (4 * (r) + 3)) from oq_1fdce876 r), by rw [E.2.2.2]; exact (show 8 + (2 + 11) + 100 ≤ (500 + 45 * (4 * (r) + 3)) from oq_55a309dd r), by rw [E.2.2.2]; exact Nat.le_refl 0, by rw [E.2.2.2]; exact Nat.le_refl 0⟩ (Nat.le_of_ble_eq_true rfl) (fun vv s1056 hq => ?_) (fun ee s1056 hq => ?_)
                rotate_left
                · obtain ⟨Is1056, Fs1056, hv, hps1056⟩ := hq; cases hv
                obtain ⟨Is1056, Fs1056, hv, hps1056⟩ := hq
                cases hv
                have Gs1056 := fm_ts Gs1046 Fs1056 (by decide) (by decide)
                have JBYW_s1056 : BYW B N s1056 := BYW_fm Fs1056 (by decide) JBYW_s1046
                have JTKS_s1056 : TKS B N s1056 := TKS_fm Fs1056 (by decide) JTKS_s1046
                have ws1056_2 : iI s1056 2 = iI s1046 2 := fm_i Fs1056 (by decide)
                have ws1056_1 : iI s1056 1 = iI s1046 1 := fm_i Fs1056 (by decide)
                have ws1056_4 : iI s1056 4 = iI s1046 4 := fm_i Fs1056 (by decide)
                have ws1056_5 : iI s1056 5 = iI s1046 5 := fm_i Fs1056 (by decide)
                have ws1056_6 : iI s1056 6 = iI s1046 6 := fm_i Fs1056 (by decide)
                have ws1056_19 : iI s1056 19 = iI s1046 19 := fm_i Fs1056 (by decide)
                have b1058 : (0 : Int) ≤ iI s1056 16 ∧ iI s1056 16 ≤ 200 := Is1056.1 16
                have ws1056_7 : iI s1056 7 = iI s1046 7 := fm_i Fs1056 (by decide)
                have dls1056 : DL s1056 = DL s1046 ++ [e1039] := by rw [hps1056.2]
                show WS k 83 [(2, .int (Int32.ofInt e1039)), (0, .ref (A 19)), (1, .int (Int32.ofInt c))] [] (Wd A dT s1056) 0 0
                refine z_inc X (x := c) (lv' := [(1, .int (Int32.ofInt (c + 1))), (2, .int (Int32.ofInt e1039)), (0, .ref (A 19))]) (show cdA 75 83 = some (.iinc 1 1, 3, 0, 0, 0) from rfl) (by decide) (List.Mem.tail _ (List.Mem.tail _ (List.Mem.head _))) (fun _ h => h) ?_
                refine z_goto X (t := 11) (show cdA 75 86 = some (.goto (-75), 3, 0, 0, 0) from rfl) (by decide) ?_
                refine WS_lv (lv := [(0, .ref (A 19)), (1, .int (Int32.ofInt (c + 1)))]) (List.forall_mem_cons.mpr ⟨(List.Mem.tail _ (List.Mem.tail _ (List.Mem.head _))), (List.forall_mem_cons.mpr ⟨(List.Mem.head _), (fun q h => absurd h List.not_mem_nil)⟩)⟩) ?_
                exact ih _ (c + 1) Is1056 Gs1056 JBYW_s1056 JTKS_s1056 (rx_up (q1 := sk B N (iI t 4 + 1)) hq (dls1040) (by have h := hps1046.2.2.2; rw [show iI s1040 4 = sk B N (iI t 4 + 1) by omega, show iI s1040 19 = iI s 19 by omega] at h; exact h) (by omega) dls1056 (by omega) (fun a r r1 h z h2 => rs_go hcd h z (by rw [← hop]; exact h2))) (by first | exact ⟨oq_54f49eb5 hi.1, oq_0cb6ab8a g1009, oq_5901dee4 ws1056_19 g1055 hps1046.1 ws1040_19 hi.2.2.1, oq_c0e77623 ws1056_4 g1055 hps1046.1 hps1040.2.2.2 ha1 hi.2.2.2.1, oq_a2786552 ws1056_4 g1055 hps1046.1, by omega, oq_155da3c6 ws1056_4 g1055 hps1046.1 hps1040.2.2.2 ha1 hi.2.2.2.2.2.2.1, oq_e7b9ecab ws1056_1 ws1056_2 hps1046.2.1, oq_e7b9ecab ws1056_2 ws1056_4 hps1046.2.2.1⟩ | omega) (by first | exact qk_me hm (by decide) (oq_1ab01402 g1009) | omega) kx
              ·
                refine z_const X (show cdA 75 76 = some (.iconst 0, 1, 0, 0, 0) from rfl) ?_
                have hRD : RDc B N 3 (iI s 4) (iI s 19) (DL s) s1046 0 := rx_bad hq (by have h := hps1046.2.2.2; rw [show iI s1040 4 = sk B N (iI t 4 + 1) by omega, show iI s1040 19 = iI s 19 by omega] at h; exact h) (by omega) (by omega) (fun a r h z => rs_bad hcd h z)
                exact w_iret X.1 q hRt (nar_ret (by first | exact Or.inl (by decide) | omega)) (ax_d X (show cdA 75 77 = some (.ireturn, 1, 0, 0, 0) from rfl)) (Nat.zero_le _) (Nat.zero_le _) ⟨_, rfl, Is1046, Gs1046, JBYW_s1046, JTKS_s1046, 0, rfl, (by decide), ⟨rd_post hRD rfl (by first | exact oq_f8a2cf0e hi.2.2.2.2.1 hi.2.2.2.1 | omega) (by first | exact b7.1 | omega) (by first | exact b1053.1 | omega) (fun h9 => absurd rfl h9), by first | exact hps1046.2.1 | omega, by first | exact hps1046.2.2.1 | omega, hRD⟩⟩
            refine z_icmp_ne X (t := 59) (show cdA 75 51 = some (.if_icmp .ne 8, 3, 1, 0, 0) from rfl) (by decide) (rng_to _) (by decide) (fun g1059 => ?_) (fun g1059 => ?_)
            ·
              refine z_bipush X (show cdA 75 59 = some (.bipush (-10), 2, 0, 0, (-10)) from rfl) ?_
              exact N1038 _ (Or.inl ⟨g1059, rfl⟩)
            ·
              refine z_bipush X (show cdA 75 54 = some (.bipush (-9), 2, 0, 0, (-9)) from rfl) ?_
              refine z_goto X (t := 61) (show cdA 75 56 = some (.goto 5, 3, 0, 0, 0) from rfl) (by decide) ?_
              exact N1038 _ (Or.inr (⟨g1059, rfl⟩))
  refine z_aload_n X (x := A 19) (show cdA 75 0 = some (.aload_n 0, 1, 0, 0, 0) from rfl) (List.Mem.head _) ?_
  refine z_callV X 19 (rm := (rkR (4 * (r) + 2))) (As := []) (st := []) (show cdA 75 1 = some (.invokevirtual 116, 3, 76, 0, 0) from rfl) rfl (by decide) rfl (by rw [E.1, E.2.1, E.2.2.1]; exact hP I jBYW jTKS (by first | exact p0 | omega) (by first | exact p1 | omega) (by first | exact p2 | omega) (by first | exact p3 | omega)) ⟨by rw [E.2.2.2]; exact (show (12 + (4 * (r) + 2)) + 1 ≤ (12 + (4 * (r) + 3)) from oq_2e478062 r), by rw [E.2.2.2]; exact (show 8 + (3 + 11) + (500 + 45 * (4 * (r) + 2)) ≤ (500 + 45 * (4 * (r) + 3)) from oq_cdd7b804 r), by rw [E.2.2.2]; exact Nat.le_refl 0, by rw [E.2.2.2]; exact Nat.le_refl 0⟩ (Nat.le_of_ble_eq_true rfl) (fun vv s9 hq => ?_) (fun ee s9 hq => ?_)
  rotate_left
  · obtain ⟨Is9, Fs9, JBYW_s9, JTKS_s9, e10, hv, hrs9, hps9⟩ := hq; cases hv
  obtain ⟨Is9, Fs9, JBYW_s9, JTKS_s9, e10, hv, hrs9, hps9⟩ := hq
  cases hv
  have Gs9 := fm_ts F Fs9 (by decide) (by decide)
  have JBYW_s9 : BYW B N s9 := BYW_fm Fs9 (by decide) jBYW
  have b11 : (0 : Int) ≤ iI s9 2 ∧ iI s9 2 ≤ 200 := Is9.1 2
  have ws9_1 : iI s9 1 = iI s 1 := fm_i Fs9 (by decide)
  have b12 : (0 : Int) ≤ iI s9 4 ∧ iI s9 4 ≤ 200 := Is9.1 4
  have b13 : ((-3) : Int) ≤ iI s9 5 ∧ iI s9 5 ≤ 255 := Is9.1 5
  have b14 : (0 : Int) ≤ iI s9 6 ∧ iI s9 6 ≤ 100000 := Is9.1 6
  have b15 : (0 : Int) ≤ iI s9 19 ∧ iI s9 19 ≤ 6 := Is9.1 19
  have b16 : (0 : Int) ≤ iI s9 16 ∧ iI s9 16 ≤ 200 := Is9.1 16
  have b17 : (0 : Int) ≤ iI s9 7 ∧ iI s9 7 ≤ 9 := Is9.1 7
  show WS k 4 [(0, .ref (A 19))] [.int (Int32.ofInt e10)] (Wd A dT s9) 0 0
  refine z_if_ne X (t := 9) (show cdA 75 4 = some (.ifCond .ne 5, 3, 1, 0, 0) from rfl) (by decide) hrs9 (fun g18 => ?_) (fun g18 => ?_)
  ·
    refine z_const X (show cdA 75 9 = some (.iconst 0, 1, 0, 0, 0) from rfl) ?_
    refine z_store_n X (lv' := [(1, .int (Int32.ofInt 0)), (0, .ref (A 19))]) (show cdA 75 10 = some (.istore_n 1, 1, 0, 0, 0) from rfl) (by decide) (fun _ h => h) ?_
    refine WS_lv (lv := [(0, .ref (A 19)), (1, .int (Int32.ofInt 0))]) (List.forall_mem_cons.mpr ⟨(List.Mem.tail _ (List.Mem.head _)), (List.forall_mem_cons.mpr ⟨(List.Mem.head _), (fun q h => absurd h List.not_mem_nil)⟩)⟩) ?_
    refine L11 ((200 - 0 : Int).toNat + 1) s9 0 Is9 Gs9 JBYW_s9 JTKS_s9 (rx_0 hps9.2.2.2 (by omega) (fun r r1 h z h2 => ws_go h z h2)) (by first | exact ⟨by decide, by decide, oq_6259e910 g18 hps9.1, oq_af044290 g18 hps9.1, oq_0f66faba g18 hps9.1, oq_3cd265a3 g18 hps9.1, oq_c32860b4 g18 hps9.1, hps9.2.1, hps9.2.2.1⟩ | omega) (Nat.lt_succ_self _) ?_
    intro s19 x20 Is19 Fs19 JBYW_s19 JTKS_s19 Qs19 hs19
    have b21 : (0 : Int) ≤ iI s19 2 ∧ iI s19 2 ≤ 200 := Is19.1 2
    have b22 : (0 : Int) ≤ iI s19 1 ∧ iI s19 1 ≤ 200 := Is19.1 1
    have b23 : (0 : Int) ≤ iI s19 4 ∧ iI s19 4 ≤ 200 := Is19.1 4
    have b24 : ((-3) : Int) ≤ iI s19 5 ∧ iI s19 5 ≤ 255 := Is19.1 5
    have b25 : (0 : Int) ≤ iI s19 6 ∧ iI s19 6 ≤ 100000 := Is19.1 6
    have b26 : (0 : Int) ≤ iI s19 19 ∧ iI s19 19 ≤ 6 := Is19.1 19
    have b27 : (0 : Int) ≤ iI s19 16 ∧ iI s19 16 ≤ 200 := Is19.1 16
    have b28 : (0 : Int) ≤ iI s19 7 ∧ iI s19 7 ≤ 9 := Is19.1 7
    have hNs19 := JBYW_s19.2.1
    have hWs19 := JBYW_s19.2.2
    refine z_const X (show cdA 75 89 = some (.iconst 1, 1, 0, 0, 0) from rfl) ?_
    have hRD : RDc B N 3 (iI s 4) (iI s 19) (DL s) s19 1 := rx_end Qs19 (fun a => rs_end (fun q => by exact Or.elim q (fun q => by exact (tkw_ch (x := 43) JTKS_s19 (by decide) (by decide) (by decide)).2 (by omega) q) (fun q => by exact (tkw_ch (x := 45) JTKS_s19 (by decide) (by decide) (by decide)).2 (by omega) q)))
    exact w_iret X.1 q hRt (nar_ret (by first | exact Or.inr (by decide) | omega)) (ax_d X (show cdA 75 90 = some (.ireturn, 1, 0, 0, 0) from rfl)) (Nat.zero_le _) (Nat.zero_le _) ⟨_, rfl, Is19, Fs19, JBYW_s19, JTKS_s19, 1, rfl, (by decide), ⟨rd_post hRD rfl (by first | exact oq_f8a2cf0e hs19.2.2.2.2.1 hs19.2.2.2.1 | omega) (by first | exact b7.1 | omega) (by first | exact b27.1 | omega) (fun h9 => by first | exact hs19.2.2.1 | omega), by first | exact hs19.2.2.2.2.2.2.2.1 | omega, by first | exact hs19.2.2.2.2.2.2.2.2.1 | omega, hRD⟩⟩
  ·
    refine z_const X (show cdA 75 7 = some (.iconst 0, 1, 0, 0, 0) from rfl) ?_
    have hRD : RDc B N 3 (iI s 4) (iI s 19) (DL s) s9 0 := rd_bad hps9.2.2.2 (by omega) (by omega) (fun r h z => ws_bad h z)
    exact w_iret X.1 q hRt (nar_ret (by first | exact Or.inl (by decide) | omega)) (ax_d X (show cdA 75 8 = some (.ireturn, 1, 0, 0, 0) from rfl)) (Nat.zero_le _) (Nat.zero_le _) ⟨_, rfl, Is9, Gs9, JBYW_s9, JTKS_s9, 0, rfl, (by decide), ⟨rd_post hRD rfl (by omega) (by first | exact b7.1 | omega) (by first | exact b16.1 | omega) (fun h9 => absurd rfl h9), by first | exact hps9.2.1 | omega, by first | exact hps9.2.2.1 | omega, hRD⟩⟩
theorem c7_sumr3 (G : GX l s0 D tys a0 dT) {B : Nat → Int} {N : Int} (SF : SF0 s0) (GT : TXw0 s0) (r : Nat) : (∀ {s : PS} {x : Int}, Bd s → BYW B N s → TKS B N s → ((x = -13 ∧ whV B N (iI s 4) = 6476969) ∨ (x = -14 ∧ whV B N (iI s 4) = 267347)) → (iI s 2 ≤ iI s 1) → (iI s 4 ≤ iI s 2) → (6 - iI s 19 ≤ ((r : Nat) : Int)) → (iI s 16 ≤ iI s 4) → CT l s0 D A dT 78 (rkR (4 * (r))) [.ref (A 19), .int (Int32.ofInt x)] s (fun o t => Bd t ∧ Fm [2, 4, 6, 5, 7, 8, 19, 16] [18] s t ∧ BYW B N t ∧ TKS B N t ∧ ∃ e, o = .inl (some (.int (Int32.ofInt e))) ∧ rng e ∧ ((e = 0 ∨ (e = 1 ∧ iI t 19 = iI s 19 ∧ iI s 4 ≤ iI t 4 ∧ iI t 4 ≤ N ∧ iI t 16 + iI s 4 ≤ iI s 16 + iI t 4)) ∧ iI t 2 ≤ iI t 1 ∧ iI t 4 ≤ iI t 2 ∧ RDc B N 0 (iI s 4) (iI s 19) (DL s) t e))) ∧ (∀ {s : PS} , Bd s → BYW B N s → TKS B N s → (iI s 2 ≤ iI s 1) → (iI s 4 ≤ iI s 2) → (6 - iI s 19 ≤ ((r : Nat) : Int)) → (iI s 16 ≤ iI s 4) → CT l s0 D A dT 77 (rkR (4 * (r) + 1)) [.ref (A 19)] s (fun o t => Bd t ∧ Fm [2, 4, 6, 5, 7, 8, 19, 16] [18] s t ∧ BYW B N t ∧ TKS B N t ∧ ∃ e, o = .inl (some (.int (Int32.ofInt e))) ∧ rng e ∧ ((e = 0 ∨ (e = 1 ∧ iI t 19 = iI s 19 ∧ iI s 4 ≤ iI t 4 ∧ iI t 4 ≤ N ∧ iI t 16 + iI s 4 ≤ iI s 16 + iI t 4)) ∧ iI t 2 ≤ iI t 1 ∧ iI t 4 ≤ iI t 2 ∧ RDc B N 0 (iI s 4) (iI s 19) (DL s) t e))) ∧ (∀ {s : PS} , Bd s → BYW B N s → TKS B N s → (iI s 2 ≤ iI s 1) → (iI s 4 ≤ iI s 2) → (6 - iI s 19 ≤ ((r : Nat) : Int)) → (iI s 16 ≤ iI s 4) → CT l s0 D A dT 76 (rkR (4 * (r) + 2)) [.ref (A 19)] s (fun o t => Bd t ∧ Fm [2, 4, 6, 5, 7, 8, 19, 16] [18] s t ∧ BYW B N t ∧ TKS B N t ∧ ∃ e, o = .inl (some (.int (Int32.ofInt e))) ∧ rng e ∧ ((e = 0 ∨ (e = 1 ∧ iI t 19 = iI s 19 ∧ iI s 4 ≤ iI t 4 ∧ iI t 4 ≤ N ∧ iI t 16 + iI s 4 ≤ iI s 16 + iI t 4)) ∧ iI t 2 ≤ iI t 1 ∧ iI t 4 ≤ iI t 2 ∧ RDc B N 1 (iI s 4) (iI s 19) (DL s) t e))) ∧ (∀ {s : PS} , Bd s → BYW B N s → TKS B N s → (iI s 2 ≤ iI s 1) → (iI s 4 ≤ iI s 2) → (6 - iI s 19 ≤ ((r : Nat) : Int)) → (iI s 16 ≤ iI s 4) → CT l s0 D A dT 75 (rkR (4 * (r) + 3)) [.ref (A 19)] s (fun o t => Bd t ∧ Fm [2, 4, 6, 5, 7, 8, 19, 16] [18] s t ∧ BYW B N t ∧ TKS B N t ∧ ∃ e, o = .inl (some (.int (Int32.ofInt e))) ∧ rng e ∧ ((e = 0 ∨ (e = 1 ∧ iI t 19 = iI s 19 ∧ iI s 4 ≤ iI t 4 ∧ iI t 4 ≤ N ∧ iI t 16 + iI s 4 ≤ iI s 16 + iI t 4)) ∧ iI t 2 ≤ iI t 1 ∧ iI t 4 ≤ iI t 2 ∧ RDc B N 3 (iI s 4) (iI s 19) (DL s) t e))) := by
  induction r with
  | zero =>
    have hT : ∀ {s : PS} {x : Int}, Bd s → BYW B N s → TKS B N s → ((x = -13 ∧ whV B N (iI s 4) = 6476969) ∨ (x = -14 ∧ whV B N (iI s 4) = 267347)) → (iI s 2 ≤ iI s 1) → (iI s 4 ≤ iI s 2) → (6 - iI s 19 ≤ ((0 : Nat) : Int)) → (iI s 16 ≤ iI s 4) → CT l s0 D A dT 78 (rkR (4 * (0))) [.ref (A 19), .int (Int32.ofInt x)] s (fun o t => Bd t ∧ Fm [2, 4, 6, 5, 7, 8, 19, 16] [18] s t ∧ BYW B N t ∧ TKS B N t ∧ ∃ e, o = .inl (some (.int (Int32.ofInt e))) ∧ rng e ∧ ((e = 0 ∨ (e = 1 ∧ iI t 19 = iI s 19 ∧ iI s 4 ≤ iI t 4 ∧ iI t 4 ≤ N ∧ iI t 16 + iI s 4 ≤ iI s 16 + iI t 4)) ∧ iI t 2 ≤ iI t 1 ∧ iI t 4 ≤ iI t 2 ∧ RDc B N 0 (iI s 4) (iI s 19) (DL s) t e)) := fun {_ _} I j1 j2 p0 p1 p2 p3 p4 => c7_two03 G SF GT I j1 j2 p0 p1 p2 p3 p4
    have hU : ∀ {s : PS} , Bd s → BYW B N s → TKS B N s → (iI s 2 ≤ iI s 1) → (iI s 4 ≤ iI s 2) → (6 - iI s 19 ≤ ((0 : Nat) : Int)) → (iI s 16 ≤ iI s 4) → CT l s0 D A dT 77 (rkR (4 * (0) + 1)) [.ref (A 19)] s (fun o t => Bd t ∧ Fm [2, 4, 6, 5, 7, 8, 19, 16] [18] s t ∧ BYW B N t ∧ TKS B N t ∧ ∃ e, o = .inl (some (.int (Int32.ofInt e))) ∧ rng e ∧ ((e = 0 ∨ (e = 1 ∧ iI t 19 = iI s 19 ∧ iI s 4 ≤ iI t 4 ∧ iI t 4 ≤ N ∧ iI t 16 + iI s 4 ≤ iI s 16 + iI t 4)) ∧ iI t 2 ≤ iI t 1 ∧ iI t 4 ≤ iI t 2 ∧ RDc B N 0 (iI s 4) (iI s 19) (DL s) t e)) := fun {_} I j1 j2 p0 p1 p2 p3 => c7_unit03 G SF GT hT I j1 j2 p0 p1 p2 p3
    have hP : ∀ {s : PS} , Bd s → BYW B N s → TKS B N s → (iI s 2 ≤ iI s 1) → (iI s 4 ≤ iI s 2) → (6 - iI s 19 ≤ ((0 : Nat) : Int)) → (iI s 16 ≤ iI s 4) → CT l s0 D A dT 76 (rkR (4 * (0) + 2)) [.ref (A 19)] s (fun o t => Bd t ∧ Fm [2, 4, 6, 5, 7, 8, 19, 16] [18] s t ∧ BYW B N t ∧ TKS B N t ∧ ∃ e, o = .inl (some (.int (Int32.ofInt e))) ∧ rng e ∧ ((e = 0 ∨ (e = 1 ∧ iI t 19 = iI s 19 ∧ iI s 4 ≤ iI t 4 ∧ iI t 4 ≤ N ∧ iI t 16 + iI s 4 ≤ iI s 16 + iI t 4)) ∧ iI t 2 ≤ iI t 1 ∧ iI t 4 ≤ iI t 2 ∧ RDc B N 1 (iI s 4) (iI s 19) (DL s) t e)) := fun {_} I j1 j2 p0 p1 p2 p3 => c7_prodS3 (r := 0) G SF GT hU I j1 j2 p0 p1 p2 p3
    exact ⟨hT, hU, hP, fun {_} I j1 j2 p0 p1 p2 p3 => c7_sumS3 (r := 0) G SF GT hP I j1 j2 p0 p1 p2 p3⟩
  | succ r ih =>
    have hT : ∀ {s : PS} {x : Int}, Bd s → BYW B N s → TKS B N s → ((x = -13 ∧ whV B N (iI s 4) = 6476969) ∨ (x = -14 ∧ whV B N (iI s 4) = 267347)) → (iI s 2 ≤ iI s 1) → (iI s 4 ≤ iI s 2) → (6 - iI s 19 ≤ ((r + 1 : Nat) : Int)) → (iI s 16 ≤ iI s 4) → CT l s0 D A dT 78 (rkR (4 * (r + 1))) [.ref (A 19), .int (Int32.ofInt x)] s (fun o t => Bd t ∧ Fm [2, 4, 6, 5, 7, 8, 19, 16] [18] s t ∧ BYW B N t ∧ TKS B N t ∧ ∃ e, o = .inl (some (.int (Int32.ofInt e))) ∧ rng e ∧ ((e = 0 ∨ (e = 1 ∧ iI t 19 = iI s 19 ∧ iI s 4 ≤ iI t 4 ∧ iI t 4 ≤ N ∧ iI t 16 + iI s 4 ≤ iI s 16 + iI t 4)) ∧ iI t 2 ≤ iI t 1 ∧ iI t 4 ≤ iI t 2 ∧ RDc B N 0 (iI s 4) (iI s 19) (DL s) t e)) := fun {_ _} I j1 j2 p0 p1 p2 p3 p4 => c7_twoS3 (r := r) G SF GT ih.2.2.2 I j1 j2 p0 p1 p2 p3 p4
    have hU : ∀ {s : PS} , Bd s → BYW B N s → TKS B N s → (iI s 2 ≤ iI s 1) → (iI s 4 ≤ iI s 2) → (6 - iI s 19 ≤ ((r + 1 : Nat) : Int)) → (iI s 16 ≤ iI s 4) → CT l s0 D A dT 77 (rkR (4 * (r + 1) + 1)) [.ref (A 19)] s (fun o t => Bd t ∧ Fm [2, 4, 6, 5, 7, 8, 19, 16] [18] s t ∧ BYW B N t ∧ TKS B N t ∧ ∃ e, o = .inl (some (.int (Int32.ofInt e))) ∧ rng e ∧ ((e = 0 ∨ (e = 1 ∧ iI t 19 = iI s 19 ∧ iI s 4 ≤ iI t 4 ∧ iI t 4 ≤ N ∧ iI t 16 + iI s 4 ≤ iI s 16 + iI t 4)) ∧ iI t 2 ≤ iI t 1 ∧ iI t 4 ≤ iI t 2 ∧ RDc B N 0 (iI s 4) (iI s 19) (DL s) t e)) := fun {_} I j1 j2 p0 p1 p2 p3 => c7_unitS3 (r := r) G SF GT hT ih.2.2.2 I j1 j2 p0 p1 p2 p3
    have hP : ∀ {s : PS} , Bd s → BYW B N s → TKS B N s → (iI s 2 ≤ iI s 1) → (iI s 4 ≤ iI s 2) → (6 - iI s 19 ≤ ((r + 1 : Nat) : Int)) → (iI s 16 ≤ iI s 4) → CT l s0 D A dT 76 (rkR (4 * (r + 1) + 2)) [.ref (A 19)] s (fun o t => Bd t ∧ Fm [2, 4, 6, 5, 7, 8, 19, 16] [18] s t ∧ BYW B N t ∧ TKS B N t ∧ ∃ e, o = .inl (some (.int (Int32.ofInt e))) ∧ rng e ∧ ((e = 0 ∨ (e = 1 ∧ iI t 19 = iI s 19 ∧ iI s 4 ≤ iI t 4 ∧ iI t 4 ≤ N ∧ iI t 16 + iI s 4 ≤ iI s 16 + iI t 4)) ∧ iI t 2 ≤ iI t 1 ∧ iI t 4 ≤ iI t 2 ∧ RDc B N 1 (iI s 4) (iI s 19) (DL s) t e)) := fun {_} I j1 j2 p0 p1 p2 p3 => c7_prodS3 (r := r + 1) G SF GT hU I j1 j2 p0 p1 p2 p3
    exact ⟨hT, hU, hP, fun {_} I j1 j2 p0 p1 p2 p3 => c7_sumS3 (r := r + 1) G SF GT hP I j1 j2 p0 p1 p2 p3⟩
set_option maxRecDepth 4000 in
theorem c7_test03 (G : GX l s0 D tys a0 dT) {B : Nat → Int} {N : Int} (SF : SF0 s0) (GT : TXw0 s0) (I : Bd s) (jBYW : BYW B N s) (jTKS : TKS B N s) (p0 : iI s 2 ≤ iI s 1) (p1 : iI s 4 ≤ iI s 2) (p2 : 6 - iI s 19 ≤ ((0 : Nat) : Int)) (p3 : iI s 16 ≤ iI s 4) : CT l s0 D A dT 74 (rkR (32 + 3 * (0))) [.ref (A 19)] s (fun o t => Bd t ∧ Fm [2, 4, 6, 5, 7, 8, 19, 16] [18] s t ∧ BYW B N t ∧ TKS B N t ∧ ∃ e, o = .inl (some (.int (Int32.ofInt e))) ∧ rng e ∧ ((e = 0 ∨ (e = 1 ∧ iI t 19 = iI s 19 ∧ iI s 4 ≤ iI t 4 ∧ iI t 4 ≤ N ∧ iI t 16 + iI s 4 ≤ iI s 16 + iI t 4)) ∧ iI t 2 ≤ iI t 1 ∧ iI t 4 ≤ iI t 2 ∧ RDc B N 5 (iI s 4) (iI s 19) (DL s) t e)) := by
  refine ct_ofX G (by decide) (Nat.le_of_ble_eq_true rfl) (fun k X E ET hRt hXt q => ?_)
  show WS k 0 [(0, .ref (A 19))] [] _ 0 0
  have F : Fm [2, 4, 6, 5, 7, 8, 19, 16] [18] s s := fm_rf _ _ s
  have hN := jBYW.2.1
  have hW := jBYW.2.2
  have hdg := tkw_dg jTKS
  have hwd := tkw_wd jTKS
  have hc91 := tkw_ch (x := 91) jTKS (by decide) (by decide) (by decide)
  have b1 : (0 : Int) ≤ iI s 2 ∧ iI s 2 ≤ 200 := I.1 2
  have b2 : (0 : Int) ≤ iI s 1 ∧ iI s 1 ≤ 200 := I.1 1
  have b3 : (0 : Int) ≤ iI s 4 ∧ iI s 4 ≤ 200 := I.1 4
  have b4 : ((-3) : Int) ≤ iI s 5 ∧ iI s 5 ≤ 255 := I.1 5
  have b5 : (0 : Int) ≤ iI s 6 ∧ iI s 6 ≤ 100000 := I.1 6
  have b6 : (0 : Int) ≤ iI s 19 ∧ iI s 19 ≤ 6 := I.1 19
  have b7 : (0 : Int) ≤ iI s 16 ∧ iI s 16 ≤ 200 := I.1 16
  have b8 : (0 : Int) ≤ iI s 7 ∧ iI s 7 ≤ 9 := I.1 7
  refine z_aload_n X (x := A 19) (show cdA 74 0 = some (.aload_n 0, 1, 0, 0, 0) from rfl) (List.Mem.head _) ?_
  refine s_getR X 19 (show cdA 74 1 = some (.getfield 31, 3, 7, 0, 0) from rfl) (by decide) rfl rfl ?_
  obtain ⟨tx111, q111, hR111, hS111⟩ := GT (111, [110, 111, 116]) (by decide)
  refine w_ldcK X (show vk_R (kOwn k) 111 tx111 q111 (kS0 k) by rw [E.2.1, X.2.1.2.1]; exact hR111) (show decode (kCc k) 4 = .ok (.ldc 111, 2) by rw [X.2.1.1]; decide +kernel) ?_
  refine z_callV X 1 (rm := rmN 131) (As := [.ref q111]) (st := []) (show cdA 74 6 = some (.invokevirtual 76, 3, 131, 0, 0) from rfl) rfl (by decide) rfl (by rw [E.1, E.2.1, E.2.2.1]; exact c10_says3 G SF hS111 (by decide) I jBYW jTKS (by first | exact p1 | omega)) ⟨by rw [E.2.2.2]; exact (show 11 + 1 ≤ (12 + (32 + 3 * (0))) from oq_f95a2bb1), by rw [E.2.2.2]; exact (show 8 + (3 + 11) + 206 ≤ (500 + 45 * (32 + 3 * (0))) from oq_70624d19), by rw [E.2.2.2]; exact Nat.le_refl 0, by rw [E.2.2.2]; exact Nat.le_refl 0⟩ (Nat.le_of_ble_eq_true rfl) (fun vv s9 hq => ?_) (fun ee s9 hq => ?_)
  rotate_left
  · obtain ⟨Is9, Fs9, JBYW_s9, JTKS_s9, e10, hv, hrs9, hps9⟩ := hq; cases hv
  obtain ⟨Is9, Fs9, JBYW_s9, JTKS_s9, e10, hv, hrs9, hps9⟩ := hq
  cases hv
  have Gs9 := fm_ts F Fs9 (by decide) (by decide)
  have JBYW_s9 : BYW B N s9 := BYW_fm Fs9 (by decide) jBYW
  have JTKS_s9 : TKS B N s9 := TKS_fm Fs9 (by decide) jTKS
  have ws9_2 : iI s9 2 = iI s 2 := fm_i Fs9 (by decide)
  have ws9_1 : iI s9 1 = iI s 1 := fm_i Fs9 (by decide)
  have ws9_4 : iI s9 4 = iI s 4 := fm_i Fs9 (by decide)
  have ws9_5 : iI s9 5 = iI s 5 := fm_i Fs9 (by decide)
  have ws9_6 : iI s9 6 = iI s 6 := fm_i Fs9 (by decide)
  have ws9_19 : iI s9 19 = iI s 19 := fm_i Fs9 (by decide)
  have ws9_16 : iI s9 16 = iI s 16 := fm_i Fs9 (by decide)
  have ws9_7 : iI s9 7 = iI s 7 := fm_i Fs9 (by decide)
  have dls9 : DL s9 = DL s := (DL_fm Fs9 (by decide) (by decide)).trans rfl
  have hws9 : (e10 = 1 ∧ whV B N (iI s 4) = 10631) ∨ (e10 = 0 ∧ whV B N (iI s 4) ≠ 10631) := by have h := hps9; rw [show iI s 4 = iI s 4 by omega, show whL [110, 111, 116] 0 = 10631 by decide] at h; exact h
  show WS k 9 [(0, .ref (A 19))] [.int (Int32.ofInt e10)] (Wd A dT s9) 0 0
  refine z_if_eq X (t := 46) (show cdA 74 9 = some (.ifCond .eq 37, 3, 0, 0, 0) from rfl) (by decide) hrs9 (fun g11 => ?_) (fun g11 => ?_)
  ·
    refine z_aload_n X (x := A 19) (show cdA 74 46 = some (.aload_n 0, 1, 0, 0, 0) from rfl) (List.Mem.head _) ?_
    refine s_getR X 19 (show cdA 74 47 = some (.getfield 31, 3, 7, 0, 0) from rfl) (by decide) rfl rfl ?_
    refine z_getI X 1 (show cdA 74 50 = some (.getfield 47, 3, 10, 6, 0) from rfl) (by decide) rfl rfl ?_
    have b12 : ((-3) : Int) ≤ iI s9 5 ∧ iI s9 5 ≤ 255 := Is9.1 5
    refine z_bipush X (show cdA 74 53 = some (.bipush 91, 2, 0, 0, 91) from rfl) ?_
    refine z_icmp_ne X (t := 95) (show cdA 74 55 = some (.if_icmp .ne 40, 3, 1, 0, 0) from rfl) (by decide) (rng_to _) (by decide) (fun g13 => ?_) (fun g13 => ?_)
    ·
      have hnC := hc91.2 (by omega)
      refine z_aload_n X (x := A 19) (show cdA 74 95 = some (.aload_n 0, 1, 0, 0, 0) from rfl) (List.Mem.head _) ?_
      refine z_callV X 19 (rm := (rkR (4 * (7) + 3))) (As := []) (st := []) (show cdA 74 96 = some (.invokevirtual 88, 3, 75, 0, 0) from rfl) rfl (by decide) rfl (by rw [E.1, E.2.1, E.2.2.1]; exact (c7_sumr3 G (B := B) (N := N) SF GT 7).2.2.2 Is9 JBYW_s9 JTKS_s9 (by first | exact oq_e7b9ecab ws9_1 ws9_2 p0 | omega) (by first | exact oq_e7b9ecab ws9_2 ws9_4 p1 | omega) (by first | exact oq_ba167e5f ws9_19 b6.1 | omega) (by first | exact oq_e7b9ecab ws9_4 ws9_16 p3 | omega)) ⟨by rw [E.2.2.2]; exact (show (12 + (4 * (7) + 3)) + 1 ≤ (12 + (32 + 3 * (0))) from oq_8943d30a), by rw [E.2.2.2]; exact (show 8 + (3 + 11) + (500 + 45 * (4 * (7) + 3)) ≤ (500 + 45 * (32 + 3 * (0))) from oq_a0b1cf65), by rw [E.2.2.2]; exact Nat.le_refl 0, by rw [E.2.2.2]; exact Nat.le_refl 0⟩ (Nat.le_of_ble_eq_true rfl) (fun vv s14 hq => ?_) (fun ee s14 hq => ?_)
      rotate_left
      · obtain ⟨Is14, Fs14, JBYW_s14, JTKS_s14, e15, hv, hrs14, hps14⟩ := hq; cases hv
      obtain ⟨Is14, Fs14, JBYW_s14, JTKS_s14, e15, hv, hrs14, hps14⟩ := hq
      cases hv
      have Gs14 := fm_ts Gs9 Fs14 (by decide) (by decide)
      have JBYW_s14 : BYW B N s14 := BYW_fm Fs14 (by decide) JBYW_s9
      have b16 : (0 : Int) ≤ iI s14 2 ∧ iI s14 2 ≤ 200 := Is14.1 2
      have ws14_1 : iI s14 1 = iI s9 1 := fm_i Fs14 (by decide)
      have b17 : (0 : Int) ≤ iI s14 4 ∧ iI s14 4 ≤ 200 := Is14.1 4
      have b18 : ((-3) : Int) ≤ iI s14 5 ∧ iI s14 5 ≤ 255 := Is14.1 5
      have b19 : (0 : Int) ≤ iI s14 6 ∧ iI s14 6 ≤ 100000 := Is14.1 6
      have b20 : (0 : Int) ≤ iI s14 19 ∧ iI s14 19 ≤ 6 := Is14.1 19
      have b21 : (0 : Int) ≤ iI s14 16 ∧ iI s14 16 ≤ 200 := Is14.1 16
      have b22 : (0 : Int) ≤ iI s14 7 ∧ iI s14 7 ≤ 9 := Is14.1 7
      show WS k 99 [(0, .ref (A 19))] [.int (Int32.ofInt e15)] (Wd A dT s14) 0 0
      refine z_if_ne X (t := 104) (show cdA 74 99 = some (.ifCond .ne 5, 3, 1, 0, 0) from rfl) (by decide) hrs14 (fun g23 => ?_) (fun g23 => ?_)
      ·
        have hc60 := tkw_ch (x := 60) JTKS_s14 (by decide) (by decide) (by decide)
        have hc62 := tkw_ch (x := 62) JTKS_s14 (by decide) (by decide) (by decide)
        have hc61 := tkw_ch (x := 61) JTKS_s14 (by decide) (by decide) (by decide)
        refine z_aload_n X (x := A 19) (show cdA 74 104 = some (.aload_n 0, 1, 0, 0, 0) from rfl) (List.Mem.head _) ?_
        refine s_getR X 19 (show cdA 74 105 = some (.getfield 31, 3, 7, 0, 0) from rfl) (by decide) rfl rfl ?_
        refine z_getI X 1 (show cdA 74 108 = some (.getfield 47, 3, 10, 6, 0) from rfl) (by decide) rfl rfl ?_
        have b24 : ((-3) : Int) ≤ iI s14 5 ∧ iI s14 5 ≤ 255 := Is14.1 5
        refine z_bipush X (show cdA 74 111 = some (.bipush 60, 2, 0, 0, 60) from rfl) ?_
        refine z_icmp_ne X (t := 121) (show cdA 74 113 = some (.if_icmp .ne 8, 3, 1, 0, 0) from rfl) (by decide) (rng_to _) (by decide) (fun g25 => ?_) (fun g25 => ?_)
        ·
          refine z_aload_n X (x := A 19) (show cdA 74 121 = some (.aload_n 0, 1, 0, 0, 0) from rfl) (List.Mem.head _) ?_
          refine s_getR X 19 (show cdA 74 122 = some (.getfield 31, 3, 7, 0, 0) from rfl) (by decide) rfl rfl ?_
          refine z_getI X 1 (show cdA 74 125 = some (.getfield 47, 3, 10, 6, 0) from rfl) (by decide) rfl rfl ?_
          have b26 : ((-3) : Int) ≤ iI s14 5 ∧ iI s14 5 ≤ 255 := Is14.1 5
          refine z_bipush X (show cdA 74 128 = some (.bipush 62, 2, 0, 0, 62) from rfl) ?_
          refine z_icmp_ne X (t := 138) (show cdA 74 130 = some (.if_icmp .ne 8, 3, 1, 0, 0) from rfl) (by decide) (rng_to _) (by decide) (fun g27 => ?_) (fun g27 => ?_)
          ·
            refine z_aload_n X (x := A 19) (show cdA 74 138 = some (.aload_n 0, 1, 0, 0, 0) from rfl) (List.Mem.head _) ?_
            refine s_getR X 19 (show cdA 74 139 = some (.getfield 31, 3, 7, 0, 0) from rfl) (by decide) rfl rfl ?_
            refine z_getI X 1 (show cdA 74 142 = some (.getfield 47, 3, 10, 6, 0) from rfl) (by decide) rfl rfl ?_
            have b28 : ((-3) : Int) ≤ iI s14 5 ∧ iI s14 5 ≤ 255 := Is14.1 5
            refine z_bipush X (show cdA 74 145 = some (.bipush 61, 2, 0, 0, 61) from rfl) ?_
            refine z_icmp_ne X (t := 155) (show cdA 74 147 = some (.if_icmp .ne 8, 3, 1, 0, 0) from rfl) (by decide) (rng_to _) (by decide) (fun g29 => ?_) (fun g29 => ?_)
            ·
              refine z_bipush X (show cdA 74 155 = some (.bipush (-20), 2, 0, 0, (-20)) from rfl) ?_
              refine z_store_n X (lv' := [(1, .int (Int32.ofInt (-20))), (0, .ref (A 19))]) (show cdA 74 157 = some (.istore_n 1, 1, 0, 0, 0) from rfl) (by decide) (fun _ h => h) ?_
              refine z_load_n X (x := (-20)) (show cdA 74 158 = some (.iload_n 1, 1, 0, 0, 0) from rfl) (List.Mem.head _) ?_
              refine z_bipush X (show cdA 74 159 = some (.bipush (-20), 2, 0, 0, (-20)) from rfl) ?_
              refine z_icmp_ne X (t := 173) (show cdA 74 161 = some (.if_icmp .ne 12, 3, 1, 0, 0) from rfl) (by decide) (by decide) (by decide) (fun g30 => ?_) (fun g30 => ?_)
              ·
                exfalso
                omega
              ·
                refine z_aload_n X (x := A 19) (show cdA 74 164 = some (.aload_n 0, 1, 0, 0, 0) from rfl) (List.Mem.tail _ (List.Mem.head _)) ?_
                refine s_getR X 19 (show cdA 74 165 = some (.getfield 31, 3, 7, 0, 0) from rfl) (by decide) rfl rfl ?_
                refine z_const X (show cdA 74 168 = some (.iconst 1, 1, 0, 0, 0) from rfl) ?_
                refine z_callV X 1 (rm := rmN 132) (As := [.int (Int32.ofInt 1)]) (st := []) (show cdA 74 169 = some (.invokevirtual 82, 3, 132, 0, 0) from rfl) rfl (by decide) rfl (by rw [E.1, E.2.1, E.2.2.1]; exact c10_refuse3 G Is14 (by first | exact ⟨by decide, by decide⟩ | omega)) ⟨by rw [E.2.2.2]; exact (show 7 + 1 ≤ (12 + (32 + 3 * (0))) from oq_98d05d0f), by rw [E.2.2.2]; exact (show 8 + (2 + 11) + 122 ≤ (500 + 45 * (32 + 3 * (0))) from oq_7c329781), by rw [E.2.2.2]; exact Nat.le_refl 0, by rw [E.2.2.2]; exact Nat.le_refl 0⟩ (Nat.le_of_ble_eq_true rfl) (fun vv s31 hq => ?_) (fun ee s31 hq => ?_)
                rotate_left
                · obtain ⟨Is31, Fs31, e32, hv, hrs31, hps31⟩ := hq; cases hv
                obtain ⟨Is31, Fs31, e32, hv, hrs31, hps31⟩ := hq
                cases hv
                have Gs31 := fm_ts Gs14 Fs31 (by decide) (by decide)
                have JBYW_s31 : BYW B N s31 := BYW_fm Fs31 (by decide) JBYW_s14
                have JTKS_s31 : TKS B N s31 := TKS_fm Fs31 (by decide) JTKS_s14
                have ws31_2 : iI s31 2 = iI s14 2 := fm_i Fs31 (by decide)
                have ws31_1 : iI s31 1 = iI s14 1 := fm_i Fs31 (by decide)
                have ws31_4 : iI s31 4 = iI s14 4 := fm_i Fs31 (by decide)
                have ws31_5 : iI s31 5 = iI s14 5 := fm_i Fs31 (by decide)
                have ws31_6 : iI s31 6 = iI s14 6 := fm_i Fs31 (by decide)
                have ws31_19 : iI s31 19 = iI s14 19 := fm_i Fs31 (by decide)
                have ws31_16 : iI s31 16 = iI s14 16 := fm_i Fs31 (by decide)
                have b33 : (0 : Int) ≤ iI s31 7 ∧ iI s31 7 ≤ 9 := Is31.1 7
                have dls31 : DL s31 = DL s14 := (DL_fm Fs31 (by decide) (by decide)).trans rfl
                show WS k 172 [(1, .int (Int32.ofInt (-20))), (0, .ref (A 19))] [.int (Int32.ofInt e32)] (Wd A dT s31) 0 0
                have hRD : RDc B N 5 (iI s 4) (iI s 19) (DL s) s31 e32 := by rw [show e32 = 0 by omega]; exact rd_sn (by omega) hnC (by have h := hps14.2.2.2; rw [show iI s9 4 = (iI s 4) by first | exact ws9_4 | omega, show iI s9 19 = iI s 19 by first | exact ws9_19 | omega] at h; exact h) (by omega) (fun q => by exact Or.elim q (fun q => by exact hc60.2 (by omega) q) (fun q => Or.elim q (fun q => by exact hc62.2 (by omega) q) (fun q => by exact hc61.2 (by omega) q))) (by omega)
                exact w_iret X.1 q hRt (nar_ret (by first | exact Or.inl (hps31.1) | omega)) (ax_d X (show cdA 74 172 = some (.ireturn, 1, 0, 0, 0) from rfl)) (Nat.zero_le _) (Nat.zero_le _) ⟨_, rfl, Is31, Gs31, JBYW_s31, JTKS_s31, e32, rfl, hrs31, ⟨rd_post hRD rfl (by first | exact oq_e0f7ceb0 g23 hps14.1 ws9_4 | omega) (by first | exact b7.1 | omega) (by first | exact oq_e4757433 ws31_16 b21.1 | omega) (fun h9 => by first | exact oq_07bbcb7b ws31_19 g23 b20.2 hps14.1 ws9_19 p2 | omega), by first | exact oq_e7b9ecab ws31_1 ws31_2 hps14.2.1 | omega, by first | exact oq_e7b9ecab ws31_2 ws31_4 hps14.2.2.1 | omega, hRD⟩⟩
            ·
              refine z_bipush X (show cdA 74 150 = some (.bipush (-17), 2, 0, 0, (-17)) from rfl) ?_
              refine z_goto X (t := 157) (show cdA 74 152 = some (.goto 5, 3, 0, 0, 0) from rfl) (by decide) ?_
              refine z_store_n X (lv' := [(1, .int (Int32.ofInt (-17))), (0, .ref (A 19))]) (show cdA 74 157 = some (.istore_n 1, 1, 0, 0, 0) from rfl) (by decide) (fun _ h => h) ?_
              refine z_load_n X (x := (-17)) (show cdA 74 158 = some (.iload_n 1, 1, 0, 0, 0) from rfl) (List.Mem.head _) ?_
              refine z_bipush X (show cdA 74 159 = some (.bipush (-20), 2, 0, 0, (-20)) from rfl) ?_
              refine z_icmp_ne X (t := 173) (show cdA 74 161 = some (.if_icmp .ne 12, 3, 1, 0, 0) from rfl) (by decide) (by decide) (by decide) (fun g34 => ?_) (fun g34 => ?_)
              ·
                refine z_aload_n X (x := A 19) (show cdA 74 173 = some (.aload_n 0, 1, 0, 0, 0) from rfl) (List.Mem.tail _ (List.Mem.head _)) ?_
                refine s_getR X 19 (show cdA 74 174 = some (.getfield 31, 3, 7, 0, 0) from rfl) (by decide) rfl rfl ?_
                have hz9 := hc61.1 (by omega)
                have hrl : rlT B N (iI s14 4) := Or.inr (Or.inr hz9.1)
                have hop : ((-17) : Int) = opC B (iI s14 4) := by unfold opC; rw [hz9.1.2]; decide
                refine z_callV X 1 (rm := rmN 129) (As := []) (st := []) (show cdA 74 177 = some (.invokevirtual 85, 3, 129, 0, 0) from rfl) rfl (by decide) rfl (by rw [E.1, E.2.1, E.2.2.1]; exact c10_step3 G Is14 JBYW_s14 (by first | exact hps14.2.1 | omega)) ⟨by rw [E.2.2.2]; exact (show 7 + 1 ≤ (12 + (32 + 3 * (0))) from oq_98d05d0f), by rw [E.2.2.2]; exact (show 8 + (1 + 11) + 121 ≤ (500 + 45 * (32 + 3 * (0))) from oq_2a8149c4), by rw [E.2.2.2]; exact Nat.le_refl 0, by rw [E.2.2.2]; exact Nat.le_refl 0⟩ (Nat.le_of_ble_eq_true rfl) (fun vv s35 hq => ?_) (fun ee s35 hq => ?_)
                rotate_left
                · obtain ⟨Is35, Fs35, JBYW_s35, JTKS_s35, hv, hps35⟩ := hq; cases hv
                obtain ⟨Is35, Fs35, JBYW_s35, JTKS_s35, hv, hps35⟩ := hq
                cases hv
                have Gs35 := fm_ts Gs14 Fs35 (by decide) (by decide)
                have JBYW_s35 : BYW B N s35 := BYW_fm Fs35 (by decide) JBYW_s14
                have b37 : (0 : Int) ≤ iI s35 2 ∧ iI s35 2 ≤ 200 := Is35.1 2
                have ws35_1 : iI s35 1 = iI s14 1 := fm_i Fs35 (by decide)
                have b38 : (0 : Int) ≤ iI s35 4 ∧ iI s35 4 ≤ 200 := Is35.1 4
                have b39 : ((-3) : Int) ≤ iI s35 5 ∧ iI s35 5 ≤ 255 := Is35.1 5
                have b40 : (0 : Int) ≤ iI s35 6 ∧ iI s35 6 ≤ 100000 := Is35.1 6
                have ws35_19 : iI s35 19 = iI s14 19 := fm_i Fs35 (by decide)
                have ws35_16 : iI s35 16 = iI s14 16 := fm_i Fs35 (by decide)
                have ws35_7 : iI s35 7 = iI s14 7 := fm_i Fs35 (by decide)
                have dls35 : DL s35 = DL s14 := (DL_fm Fs35 (by decide) (by decide)).trans rfl
                show WS k 180 [(1, .int (Int32.ofInt (-17))), (0, .ref (A 19))] [] (Wd A dT s35) 0 0
                have hs9 : iI s35 4 = sk B N (iI s14 4 + 1) := by rw [hps35.2.2.1, show iI s14 2 = iI s14 4 + 1 by omega]
                refine z_aload_n X (x := A 19) (show cdA 74 180 = some (.aload_n 0, 1, 0, 0, 0) from rfl) (List.Mem.tail _ (List.Mem.head _)) ?_
                refine z_callV X 19 (rm := (rkR (4 * (7) + 3))) (As := []) (st := []) (show cdA 74 181 = some (.invokevirtual 88, 3, 75, 0, 0) from rfl) rfl (by decide) rfl (by rw [E.1, E.2.1, E.2.2.1]; exact (c7_sumr3 G (B := B) (N := N) SF GT 7).2.2.2 Is35 JBYW_s35 JTKS_s35 (by first | exact hps35.1 | omega) (by first | exact hps35.2.1 | omega) (by first | exact oq_ba167e5f ws35_19 b20.1 | omega) (by first | exact oq_0089538a ws35_16 hps35.2.2.2 g23 hps14.2.2.1 hps14.1 ws9_16 ws9_4 p3 | omega)) ⟨by rw [E.2.2.2]; exact (show (12 + (4 * (7) + 3)) + 1 ≤ (12 + (32 + 3 * (0))) from oq_8943d30a), by rw [E.2.2.2]; exact (show 8 + (3 + 11) + (500 + 45 * (4 * (7) + 3)) ≤ (500 + 45 * (32 + 3 * (0))) from oq_a0b1cf65), by rw [E.2.2.2]; exact Nat.le_refl 0, by rw [E.2.2.2]; exact Nat.le_refl 0⟩ (Nat.le_of_ble_eq_true rfl) (fun vv s41 hq => ?_) (fun ee s41 hq => ?_)
                rotate_left
                · obtain ⟨Is41, Fs41, JBYW_s41, JTKS_s41, e42, hv, hrs41, hps41⟩ := hq; cases hv
                obtain ⟨Is41, Fs41, JBYW_s41, JTKS_s41, e42, hv, hrs41, hps41⟩ := hq
                cases hv
                have Gs41 := fm_ts Gs35 Fs41 (by decide) (by decide)
                have JBYW_s41 : BYW B N s41 := BYW_fm Fs41 (by decide) JBYW_s35
                have b43 : (0 : Int) ≤ iI s41 2 ∧ iI s41 2 ≤ 200 := Is41.1 2
                have ws41_1 : iI s41 1 = iI s35 1 := fm_i Fs41 (by decide)
                have b44 : (0 : Int) ≤ iI s41 4 ∧ iI s41 4 ≤ 200 := Is41.1 4
                have b45 : ((-3) : Int) ≤ iI s41 5 ∧ iI s41 5 ≤ 255 := Is41.1 5
                have b46 : (0 : Int) ≤ iI s41 6 ∧ iI s41 6 ≤ 100000 := Is41.1 6
                have b47 : (0 : Int) ≤ iI s41 19 ∧ iI s41 19 ≤ 6 := Is41.1 19
                have b48 : (0 : Int) ≤ iI s41 16 ∧ iI s41 16 ≤ 200 := Is41.1 16
                have b49 : (0 : Int) ≤ iI s41 7 ∧ iI s41 7 ≤ 9 := Is41.1 7
                show WS k 184 [(1, .int (Int32.ofInt (-17))), (0, .ref (A 19))] [.int (Int32.ofInt e42)] (Wd A dT s41) 0 0
                refine z_if_ne X (t := 189) (show cdA 74 184 = some (.ifCond .ne 5, 3, 1, 0, 0) from rfl) (by decide) hrs41 (fun g50 => ?_) (fun g50 => ?_)
                ·
                  refine z_aload_n X (x := A 19) (show cdA 74 189 = some (.aload_n 0, 1, 0, 0, 0) from rfl) (List.Mem.tail _ (List.Mem.head _)) ?_
                  refine z_load_n X (x := (-17)) (show cdA 74 190 = some (.iload_n 1, 1, 0, 0, 0) from rfl) (List.Mem.head _) ?_
                  refine z_callV X 19 (rm := rmN 82) (As := [.int (Int32.ofInt (-17))]) (st := []) (show cdA 74 191 = some (.invokevirtual 103, 3, 82, 0, 0) from rfl) rfl (by decide) rfl (by rw [E.1, E.2.1, E.2.2.1]; exact c7_put3 G Is41 (by first | exact ⟨by decide, by decide⟩ | omega) (by omega)) ⟨by rw [E.2.2.2]; exact (show 6 + 1 ≤ (12 + (32 + 3 * (0))) from oq_af2bf85e), by rw [E.2.2.2]; exact (show 8 + (2 + 11) + 100 ≤ (500 + 45 * (32 + 3 * (0))) from oq_72040bf2), by rw [E.2.2.2]; exact Nat.le_refl 0, by rw [E.2.2.2]; exact Nat.le_refl 0⟩ (Nat.le_of_ble_eq_true rfl) (fun vv s51 hq => ?_) (fun ee s51 hq => ?_)
                  rotate_left
                  · obtain ⟨Is51, Fs51, hv, hps51⟩ := hq; cases hv
                  obtain ⟨Is51, Fs51, hv, hps51⟩ := hq
                  cases hv
                  have Gs51 := fm_ts Gs41 Fs51 (by decide) (by decide)
                  have JBYW_s51 : BYW B N s51 := BYW_fm Fs51 (by decide) JBYW_s41
                  have JTKS_s51 : TKS B N s51 := TKS_fm Fs51 (by decide) JTKS_s41
                  have ws51_2 : iI s51 2 = iI s41 2 := fm_i Fs51 (by decide)
                  have ws51_1 : iI s51 1 = iI s41 1 := fm_i Fs51 (by decide)
                  have ws51_4 : iI s51 4 = iI s41 4 := fm_i Fs51 (by decide)
                  have ws51_5 : iI s51 5 = iI s41 5 := fm_i Fs51 (by decide)
                  have ws51_6 : iI s51 6 = iI s41 6 := fm_i Fs51 (by decide)
                  have ws51_19 : iI s51 19 = iI s41 19 := fm_i Fs51 (by decide)
                  have b53 : (0 : Int) ≤ iI s51 16 ∧ iI s51 16 ≤ 200 := Is51.1 16
                  have ws51_7 : iI s51 7 = iI s41 7 := fm_i Fs51 (by decide)
                  have dls51 : DL s51 = DL s41 ++ [(-17)] := by rw [hps51.2]
                  show WS k 194 [(1, .int (Int32.ofInt (-17))), (0, .ref (A 19))] [] (Wd A dT s51) 0 0
                  refine z_const X (show cdA 74 194 = some (.iconst 1, 1, 0, 0, 0) from rfl) ?_
                  have hRD : RDc B N 5 (iI s 4) (iI s 19) (DL s) s51 1 := by have h := rd_s2 (o := iI s 19) (v := s51) (x := (-17)) (by omega) hnC (by have h := hps14.2.2.2; rw [show iI s9 4 = (iI s 4) by first | exact ws9_4 | omega, show iI s9 19 = iI s 19 by first | exact ws9_19 | omega] at h; exact h) (dls9) (by omega) hrl hop (by have h := hps41.2.2.2; rw [show iI s35 4 = sk B N (iI s14 4 + 1) by omega, show iI s35 19 = iI s 19 by omega] at h; exact h) (dls35) (by omega) (by omega) (fun _ => dls51); rw [show e42 = 1 by omega] at h; exact h
                  exact w_iret X.1 q hRt (nar_ret (by first | exact Or.inr (by decide) | omega)) (ax_d X (show cdA 74 195 = some (.ireturn, 1, 0, 0, 0) from rfl)) (Nat.zero_le _) (Nat.zero_le _) ⟨_, rfl, Is51, Gs51, JBYW_s51, JTKS_s51, 1, rfl, (by decide), ⟨rd_post hRD rfl (by first | exact oq_e0f7ceb0 g23 hps14.1 ws9_4 | omega) (by first | exact b7.1 | omega) (by first | exact b53.1 | omega) (fun h9 => by first | exact oq_b6c8ed7c ws51_19 g50 b47.2 hps41.1 ws35_19 g23 hps14.1 ws9_19 p2 | omega), by first | exact oq_e7b9ecab ws51_1 ws51_2 hps41.2.1 | omega, by first | exact oq_e7b9ecab ws51_2 ws51_4 hps41.2.2.1 | omega, hRD⟩⟩
                ·
                  refine z_const X (show cdA 74 187 = some (.iconst 0, 1, 0, 0, 0) from rfl) ?_
                  have hRD : RDc B N 5 (iI s 4) (iI s 19) (DL s) s41 0 := by have h := rd_s2 (o := iI s 19) (v := s41) (x := (-17)) (by omega) hnC (by have h := hps14.2.2.2; rw [show iI s9 4 = (iI s 4) by first | exact ws9_4 | omega, show iI s9 19 = iI s 19 by first | exact ws9_19 | omega] at h; exact h) (dls9) (by omega) hrl hop (by have h := hps41.2.2.2; rw [show iI s35 4 = sk B N (iI s14 4 + 1) by omega, show iI s35 19 = iI s 19 by omega] at h; exact h) (dls35) (by omega) (by omega) (fun h => absurd (show e42 = 0 by omega) h); rw [show e42 = 0 by omega] at h; exact h
                  exact w_iret X.1 q hRt (nar_ret (by first | exact Or.inl (by decide) | omega)) (ax_d X (show cdA 74 188 = some (.ireturn, 1, 0, 0, 0) from rfl)) (Nat.zero_le _) (Nat.zero_le _) ⟨_, rfl, Is41, Gs41, JBYW_s41, JTKS_s41, 0, rfl, (by decide), ⟨rd_post hRD rfl (by first | exact oq_e0f7ceb0 g23 hps14.1 ws9_4 | omega) (by first | exact b7.1 | omega) (by first | exact b48.1 | omega) (fun h9 => absurd rfl h9), by first | exact hps41.2.1 | omega, by first | exact hps41.2.2.1 | omega, hRD⟩⟩
              ·
                exfalso
                omega
          ·
            refine z_bipush X (show cdA 74 133 = some (.bipush (-16), 2, 0, 0, (-16)) from rfl) ?_
            refine z_goto X (t := 157) (show cdA 74 135 = some (.goto 22, 3, 0, 0, 0) from rfl) (by decide) ?_
            refine z_store_n X (lv' := [(1, .int (Int32.ofInt (-16))), (0, .ref (A 19))]) (show cdA 74 157 = some (.istore_n 1, 1, 0, 0, 0) from rfl) (by decide) (fun _ h => h) ?_
            refine z_load_n X (x := (-16)) (show cdA 74 158 = some (.iload_n 1, 1, 0, 0, 0) from rfl) (List.Mem.head _) ?_
            refine z_bipush X (show cdA 74 159 = some (.bipush (-20), 2, 0, 0, (-20)) from rfl) ?_
            refine z_icmp_ne X (t := 173) (show cdA 74 161 = some (.if_icmp .ne 12, 3, 1, 0, 0) from rfl) (by decide) (by decide) (by decide) (fun g54 => ?_) (fun g54 => ?_)
            ·
              refine z_aload_n X (x := A 19) (show cdA 74 173 = some (.aload_n 0, 1, 0, 0, 0) from rfl) (List.Mem.tail _ (List.Mem.head _)) ?_
              refine s_getR X 19 (show cdA 74 174 = some (.getfield 31, 3, 7, 0, 0) from rfl) (by decide) rfl rfl ?_
              have hz9 := hc62.1 (by omega)
              have hrl : rlT B N (iI s14 4) := Or.inr (Or.inl hz9.1)
              have hop : ((-16) : Int) = opC B (iI s14 4) := by unfold opC; rw [hz9.1.2]; decide
              refine z_callV X 1 (rm := rmN 129) (As := []) (st := []) (show cdA 74 177 = some (.invokevirtual 85, 3, 129, 0, 0) from rfl) rfl (by decide) rfl (by rw [E.1, E.2.1, E.2.2.1]; exact c10_step3 G Is14 JBYW_s14 (by first | exact hps14.2.1 | omega)) ⟨by rw [E.2.2.2]; exact (show 7 + 1 ≤ (12 + (32 + 3 * (0))) from oq_98d05d0f), by rw [E.2.2.2]; exact (show 8 + (1 + 11) + 121 ≤ (500 + 45 * (32 + 3 * (0))) from oq_2a8149c4), by rw [E.2.2.2]; exact Nat.le_refl 0, by rw [E.2.2.2]; exact Nat.le_refl 0⟩ (Nat.le_of_ble_eq_true rfl) (fun vv s55 hq => ?_) (fun ee s55 hq => ?_)
              rotate_left
              · obtain ⟨Is55, Fs55, JBYW_s55, JTKS_s55, hv, hps55⟩ := hq; cases hv
              obtain ⟨Is55, Fs55, JBYW_s55, JTKS_s55, hv, hps55⟩ := hq
              cases hv
              have Gs55 := fm_ts Gs14 Fs55 (by decide) (by decide)
              have JBYW_s55 : BYW B N s55 := BYW_fm Fs55 (by decide) JBYW_s14
              have b57 : (0 : Int) ≤ iI s55 2 ∧ iI s55 2 ≤ 200 := Is55.1 2
              have ws55_1 : iI s55 1 = iI s14 1 := fm_i Fs55 (by decide)
              have b58 : (0 : Int) ≤ iI s55 4 ∧ iI s55 4 ≤ 200 := Is55.1 4
              have b59 : ((-3) : Int) ≤ iI s55 5 ∧ iI s55 5 ≤ 255 := Is55.1 5
              have b60 : (0 : Int) ≤ iI s55 6 ∧ iI s55 6 ≤ 100000 := Is55.1 6
              have ws55_19 : iI s55 19 = iI s14 19 := fm_i Fs55 (by decide)
              have ws55_16 : iI s55 16 = iI s14 16 := fm_i Fs55 (by decide)
              have ws55_7 : iI s55 7 = iI s14 7 := fm_i Fs55 (by decide)
              have dls55 : DL s55 = DL s14 := (DL_fm Fs55 (by decide) (by decide)).trans rfl
              show WS k 180 [(1, .int (Int32.ofInt (-16))), (0, .ref (A 19))] [] (Wd A dT s55) 0 0
              have hs9 : iI s55 4 = sk B N (iI s14 4 + 1) := by rw [hps55.2.2.1, show iI s14 2 = iI s14 4 + 1 by omega]
              refine z_aload_n X (x := A 19) (show cdA 74 180 = some (.aload_n 0, 1, 0, 0, 0) from rfl) (List.Mem.tail _ (List.Mem.head _)) ?_
              refine z_callV X 19 (rm := (rkR (4 * (7) + 3))) (As := []) (st := []) (show cdA 74 181 = some (.invokevirtual 88, 3, 75, 0, 0) from rfl) rfl (by decide) rfl (by rw [E.1, E.2.1, E.2.2.1]; exact (c7_sumr3 G (B := B) (N := N) SF GT 7).2.2.2 Is55 JBYW_s55 JTKS_s55 (by first | exact hps55.1 | omega) (by first | exact hps55.2.1 | omega) (by first | exact oq_ba167e5f ws55_19 b20.1 | omega) (by first | exact oq_0089538a ws55_16 hps55.2.2.2 g23 hps14.2.2.1 hps14.1 ws9_16 ws9_4 p3 | omega)) ⟨by rw [E.2.2.2]; exact (show (12 + (4 * (7) + 3)) + 1 ≤ (12 + (32 + 3 * (0))) from oq_8943d30a), by rw [E.2.2.2]; exact (show 8 + (3 + 11) + (500 + 45 * (4 * (7) + 3)) ≤ (500 + 45 * (32 + 3 * (0))) from oq_a0b1cf65), by rw [E.2.2.2]; exact Nat.le_refl 0, by rw [E.2.2.2]; exact Nat.le_refl 0⟩ (Nat.le_of_ble_eq_true rfl) (fun vv s61 hq => ?_) (fun ee s61 hq => ?_)
              rotate_left
              · obtain ⟨Is61, Fs61, JBYW_s61, JTKS_s61, e62, hv, hrs61, hps61⟩ := hq; cases hv
              obtain ⟨Is61, Fs61, JBYW_s61, JTKS_s61, e62, hv, hrs61, hps61⟩ := hq
              cases hv
              have Gs61 := fm_ts Gs55 Fs61 (by decide) (by decide)
              have JBYW_s61 : BYW B N s61 := BYW_fm Fs61 (by decide) JBYW_s55
              have b63 : (0 : Int) ≤ iI s61 2 ∧ iI s61 2 ≤ 200 := Is61.1 2
              have ws61_1 : iI s61 1 = iI s55 1 := fm_i Fs61 (by decide)
              have b64 : (0 : Int) ≤ iI s61 4 ∧ iI s61 4 ≤ 200 := Is61.1 4
              have b65 : ((-3) : Int) ≤ iI s61 5 ∧ iI s61 5 ≤ 255 := Is61.1 5
              have b66 : (0 : Int) ≤ iI s61 6 ∧ iI s61 6 ≤ 100000 := Is61.1 6
              have b67 : (0 : Int) ≤ iI s61 19 ∧ iI s61 19 ≤ 6 := Is61.1 19
              have b68 : (0 : Int) ≤ iI s61 16 ∧ iI s61 16 ≤ 200 := Is61.1 16
              have b69 : (0 : Int) ≤ iI s61 7 ∧ iI s61 7 ≤ 9 := Is61.1 7
              show WS k 184 [(1, .int (Int32.ofInt (-16))), (0, .ref (A 19))] [.int (Int32.ofInt e62)] (Wd A dT s61) 0 0
              refine z_if_ne X (t := 189) (show cdA 74 184 = some (.ifCond .ne 5, 3, 1, 0, 0) from rfl) (by decide) hrs61 (fun g70 => ?_) (fun g70 => ?_)
              ·
                refine z_aload_n X (x := A 19) (show cdA 74 189 = some (.aload_n 0, 1, 0, 0, 0) from rfl) (List.Mem.tail _ (List.Mem.head _)) ?_
                refine z_load_n X (x := (-16)) (show cdA 74 190 = some (.iload_n 1, 1, 0, 0, 0) from rfl) (List.Mem.head _) ?_
                refine z_callV X 19 (rm := rmN 82) (As := [.int (Int32.ofInt (-16))]) (st := []) (show cdA 74 191 = some (.invokevirtual 103, 3, 82, 0, 0) from rfl) rfl (by decide) rfl (by rw [E.1, E.2.1, E.2.2.1]; exact c7_put3 G Is61 (by first | exact ⟨by decide, by decide⟩ | omega) (by omega)) ⟨by rw [E.2.2.2]; exact (show 6 + 1 ≤ (12 + (32 + 3 * (0))) from oq_af2bf85e), by rw [E.2.2.2]; exact (show 8 + (2 + 11) + 100 ≤ (500 + 45 * (32 + 3 * (0))) from oq_72040bf2), by rw [E.2.2.2]; exact Nat.le_refl 0, by rw [E.2.2.2]; exact Nat.le_refl 0⟩ (Nat.le_of_ble_eq_true rfl) (fun vv s71 hq => ?_) (fun ee s71 hq => ?_)
                rotate_left
                · obtain ⟨Is71, Fs71, hv, hps71⟩ := hq; cases hv
                obtain ⟨Is71, Fs71, hv, hps71⟩ := hq
                cases hv
                have Gs71 := fm_ts Gs61 Fs71 (by decide) (by decide)
                have JBYW_s71 : BYW B N s71 := BYW_fm Fs71 (by decide) JBYW_s61
                have JTKS_s71 : TKS B N s71 := TKS_fm Fs71 (by decide) JTKS_s61
                have ws71_2 : iI s71 2 = iI s61 2 := fm_i Fs71 (by decide)
                have ws71_1 : iI s71 1 = iI s61 1 := fm_i Fs71 (by decide)
                have ws71_4 : iI s71 4 = iI s61 4 := fm_i Fs71 (by decide)
                have ws71_5 : iI s71 5 = iI s61 5 := fm_i Fs71 (by decide)
                have ws71_6 : iI s71 6 = iI s61 6 := fm_i Fs71 (by decide)
                have ws71_19 : iI s71 19 = iI s61 19 := fm_i Fs71 (by decide)
                have b73 : (0 : Int) ≤ iI s71 16 ∧ iI s71 16 ≤ 200 := Is71.1 16
                have ws71_7 : iI s71 7 = iI s61 7 := fm_i Fs71 (by decide)
                have dls71 : DL s71 = DL s61 ++ [(-16)] := by rw [hps71.2]
                show WS k 194 [(1, .int (Int32.ofInt (-16))), (0, .ref (A 19))] [] (Wd A dT s71) 0 0
                refine z_const X (show cdA 74 194 = some (.iconst 1, 1, 0, 0, 0) from rfl) ?_
                have hRD : RDc B N 5 (iI s 4) (iI s 19) (DL s) s71 1 := by have h := rd_s2 (o := iI s 19) (v := s71) (x := (-16)) (by omega) hnC (by have h := hps14.2.2.2; rw [show iI s9 4 = (iI s 4) by first | exact ws9_4 | omega, show iI s9 19 = iI s 19 by first | exact ws9_19 | omega] at h; exact h) (dls9) (by omega) hrl hop (by have h := hps61.2.2.2; rw [show iI s55 4 = sk B N (iI s14 4 + 1) by omega, show iI s55 19 = iI s 19 by omega] at h; exact h) (dls55) (by omega) (by omega) (fun _ => dls71); rw [show e62 = 1 by omega] at h; exact h
                exact w_iret X.1 q hRt (nar_ret (by first | exact Or.inr (by decide) | omega)) (ax_d X (show cdA 74 195 = some (.ireturn, 1, 0, 0, 0) from rfl)) (Nat.zero_le _) (Nat.zero_le _) ⟨_, rfl, Is71, Gs71, JBYW_s71, JTKS_s71, 1, rfl, (by decide), ⟨rd_post hRD rfl (by first | exact oq_e0f7ceb0 g23 hps14.1 ws9_4 | omega) (by first | exact b7.1 | omega) (by first | exact b73.1 | omega) (fun h9 => by first | exact oq_b6c8ed7c ws71_19 g70 b67.2 hps61.1 ws55_19 g23 hps14.1 ws9_19 p2 | omega), by first | exact oq_e7b9ecab ws71_1 ws71_2 hps61.2.1 | omega, by first | exact oq_e7b9ecab ws71_2 ws71_4 hps61.2.2.1 | omega, hRD⟩⟩
              ·
                refine z_const X (show cdA 74 187 = some (.iconst 0, 1, 0, 0, 0) from rfl) ?_
                have hRD : RDc B N 5 (iI s 4) (iI s 19) (DL s) s61 0 := by have h := rd_s2 (o := iI s 19) (v := s61) (x := (-16)) (by omega) hnC (by have h := hps14.2.2.2; rw [show iI s9 4 = (iI s 4) by first | exact ws9_4 | omega, show iI s9 19 = iI s 19 by first | exact ws9_19 | omega] at h; exact h) (dls9) (by omega) hrl hop (by have h := hps61.2.2.2; rw [show iI s55 4 = sk B N (iI s14 4 + 1) by omega, show iI s55 19 = iI s 19 by omega] at h; exact h) (dls55) (by omega) (by omega) (fun h => absurd (show e62 = 0 by omega) h); rw [show e62 = 0 by omega] at h; exact h
                exact w_iret X.1 q hRt (nar_ret (by first | exact Or.inl (by decide) | omega)) (ax_d X (show cdA 74 188 = some (.ireturn, 1, 0, 0, 0) from rfl)) (Nat.zero_le _) (Nat.zero_le _) ⟨_, rfl, Is61, Gs61, JBYW_s61, JTKS_s61, 0, rfl, (by decide), ⟨rd_post hRD rfl (by first | exact oq_e0f7ceb0 g23 hps14.1 ws9_4 | omega) (by first | exact b7.1 | omega) (by first | exact b68.1 | omega) (fun h9 => absurd rfl h9), by first | exact hps61.2.1 | omega, by first | exact hps61.2.2.1 | omega, hRD⟩⟩
            ·
              exfalso
              omega
        ·
          refine z_bipush X (show cdA 74 116 = some (.bipush (-15), 2, 0, 0, (-15)) from rfl) ?_
          refine z_goto X (t := 157) (show cdA 74 118 = some (.goto 39, 3, 0, 0, 0) from rfl) (by decide) ?_
          refine z_store_n X (lv' := [(1, .int (Int32.ofInt (-15))), (0, .ref (A 19))]) (show cdA 74 157 = some (.istore_n 1, 1, 0, 0, 0) from rfl) (by decide) (fun _ h => h) ?_
          refine z_load_n X (x := (-15)) (show cdA 74 158 = some (.iload_n 1, 1, 0, 0, 0) from rfl) (List.Mem.head _) ?_
          refine z_bipush X (show cdA 74 159 = some (.bipush (-20), 2, 0, 0, (-20)) from rfl) ?_
          refine z_icmp_ne X (t := 173) (show cdA 74 161 = some (.if_icmp .ne 12, 3, 1, 0, 0) from rfl) (by decide) (by decide) (by decide) (fun g74 => ?_) (fun g74 => ?_)
          ·
            refine z_aload_n X (x := A 19) (show cdA 74 173 = some (.aload_n 0, 1, 0, 0, 0) from rfl) (List.Mem.tail _ (List.Mem.head _)) ?_
            refine s_getR X 19 (show cdA 74 174 = some (.getfield 31, 3, 7, 0, 0) from rfl) (by decide) rfl rfl ?_
            have hz9 := hc60.1 (by omega)
            have hrl : rlT B N (iI s14 4) := Or.inl hz9.1
            have hop : ((-15) : Int) = opC B (iI s14 4) := by unfold opC; rw [hz9.1.2]; decide
            refine z_callV X 1 (rm := rmN 129) (As := []) (st := []) (show cdA 74 177 = some (.invokevirtual 85, 3, 129, 0, 0) from rfl) rfl (by decide) rfl (by rw [E.1, E.2.1, E.2.2.1]; exact c10_step3 G Is14 JBYW_s14 (by first | exact hps14.2.1 | omega)) ⟨by rw [E.2.2.2]; exact (show 7 + 1 ≤ (12 + (32 + 3 * (0))) from oq_98d05d0f), by rw [E.2.2.2]; exact (show 8 + (1 + 11) + 121 ≤ (500 + 45 * (32 + 3 * (0))) from oq_2a8149c4), by rw [E.2.2.2]; exact Nat.le_refl 0, by rw [E.2.2.2]; exact Nat.le_refl 0⟩ (Nat.le_of_ble_eq_true rfl) (fun vv s75 hq => ?_) (fun ee s75 hq => ?_)
            rotate_left
            · obtain ⟨Is75, Fs75, JBYW_s75, JTKS_s75, hv, hps75⟩ := hq; cases hv
            obtain ⟨Is75, Fs75, JBYW_s75, JTKS_s75, hv, hps75⟩ := hq
            cases hv
            have Gs75 := fm_ts Gs14 Fs75 (by decide) (by decide)
            have JBYW_s75 : BYW B N s75 := BYW_fm Fs75 (by decide) JBYW_s14
            have b77 : (0 : Int) ≤ iI s75 2 ∧ iI s75 2 ≤ 200 := Is75.1 2
            have ws75_1 : iI s75 1 = iI s14 1 := fm_i Fs75 (by decide)
            have b78 : (0 : Int) ≤ iI s75 4 ∧ iI s75 4 ≤ 200 := Is75.1 4
            have b79 : ((-3) : Int) ≤ iI s75 5 ∧ iI s75 5 ≤ 255 := Is75.1 5
            have b80 : (0 : Int) ≤ iI s75 6 ∧ iI s75 6 ≤ 100000 := Is75.1 6
            have ws75_19 : iI s75 19 = iI s14 19 := fm_i Fs75 (by decide)
            have ws75_16 : iI s75 16 = iI s14 16 := fm_i Fs75 (by decide)
            have ws75_7 : iI s75 7 = iI s14 7 := fm_i Fs75 (by decide)
            have dls75 : DL s75 = DL s14 := (DL_fm Fs75 (by decide) (by decide)).trans rfl
            show WS k 180 [(1, .int (Int32.ofInt (-15))), (0, .ref (A 19))] [] (Wd A dT s75) 0 0
            have hs9 : iI s75 4 = sk B N (iI s14 4 + 1) := by rw [hps75.2.2.1, show iI s14 2 = iI s14 4 + 1 by omega]
            refine z_aload_n X (x := A 19) (show cdA 74 180 = some (.aload_n 0, 1, 0, 0, 0) from rfl) (List.Mem.tail _ (List.Mem.head _)) ?_
            refine z_callV X 19 (rm := (rkR (4 * (7) + 3))) (As := []) (st := []) (show cdA 74 181 = some (.invokevirtual 88, 3, 75, 0, 0) from rfl) rfl (by decide) rfl (by rw [E.1, E.2.1, E.2.2.1]; exact (c7_sumr3 G (B := B) (N := N) SF GT 7).2.2.2 Is75 JBYW_s75 JTKS_s75 (by first | exact hps75.1 | omega) (by first | exact hps75.2.1 | omega) (by first | exact oq_ba167e5f ws75_19 b20.1 | omega) (by first | exact oq_0089538a ws75_16 hps75.2.2.2 g23 hps14.2.2.1 hps14.1 ws9_16 ws9_4 p3 | omega)) ⟨by rw [E.2.2.2]; exact (show (12 + (4 * (7) + 3)) + 1 ≤ (12 + (32 + 3 * (0))) from oq_8943d30a), by rw [E.2.2.2]; exact (show 8 + (3 + 11) + (500 + 45 * (4 * (7) + 3)) ≤ (500 + 45 * (32 + 3 * (0))) from oq_a0b1cf65), by rw [E.2.2.2]; exact Nat.le_refl 0, by rw [E.2.2.2]; exact Nat.le_refl 0⟩ (Nat.le_of_ble_eq_true rfl) (fun vv s81 hq => ?_) (fun ee s81 hq => ?_)
            rotate_left
            · obtain ⟨Is81, Fs81, JBYW_s81, JTKS_s81, e82, hv, hrs81, hps81⟩ := hq; cases hv
            obtain ⟨Is81, Fs81, JBYW_s81, JTKS_s81, e82, hv, hrs81, hps81⟩ := hq
            cases hv
            have Gs81 := fm_ts Gs75 Fs81 (by decide) (by decide)
            have JBYW_s81 : BYW B N s81 := BYW_fm Fs81 (by decide) JBYW_s75
            have b83 : (0 : Int) ≤ iI s81 2 ∧ iI s81 2 ≤ 200 := Is81.1 2
            have ws81_1 : iI s81 1 = iI s75 1 := fm_i Fs81 (by decide)
            have b84 : (0 : Int) ≤ iI s81 4 ∧ iI s81 4 ≤ 200 := Is81.1 4
            have b85 : ((-3) : Int) ≤ iI s81 5 ∧ iI s81 5 ≤ 255 := Is81.1 5
            have b86 : (0 : Int) ≤ iI s81 6 ∧ iI s81 6 ≤ 100000 := Is81.1 6
            have b87 : (0 : Int) ≤ iI s81 19 ∧ iI s81 19 ≤ 6 := Is81.1 19
            have b88 : (0 : Int) ≤ iI s81 16 ∧ iI s81 16 ≤ 200 := Is81.1 16
            have b89 : (0 : Int) ≤ iI s81 7 ∧ iI s81 7 ≤ 9 := Is81.1 7
            show WS k 184 [(1, .int (Int32.ofInt (-15))), (0, .ref (A 19))] [.int (Int32.ofInt e82)] (Wd A dT s81) 0 0
            refine z_if_ne X (t := 189) (show cdA 74 184 = some (.ifCond .ne 5, 3, 1, 0, 0) from rfl) (by decide) hrs81 (fun g90 => ?_) (fun g90 => ?_)
            ·
              refine z_aload_n X (x := A 19) (show cdA 74 189 = some (.aload_n 0, 1, 0, 0, 0) from rfl) (List.Mem.tail _ (List.Mem.head _)) ?_
              refine z_load_n X (x := (-15)) (show cdA 74 190 = some (.iload_n 1, 1, 0, 0, 0) from rfl) (List.Mem.head _) ?_
              refine z_callV X 19 (rm := rmN 82) (As := [.int (Int32.ofInt (-15))]) (st := []) (show cdA 74 191 = some (.invokevirtual 103, 3, 82, 0, 0) from rfl) rfl (by decide) rfl (by rw [E.1, E.2.1, E.2.2.1]; exact c7_put3 G Is81 (by first | exact ⟨by decide, by decide⟩ | omega) (by omega)) ⟨by rw [E.2.2.2]; exact (show 6 + 1 ≤ (12 + (32 + 3 * (0))) from oq_af2bf85e), by rw [E.2.2.2]; exact (show 8 + (2 + 11) + 100 ≤ (500 + 45 * (32 + 3 * (0))) from oq_72040bf2), by rw [E.2.2.2]; exact Nat.le_refl 0, by rw [E.2.2.2]; exact Nat.le_refl 0⟩ (Nat.le_of_ble_eq_true rfl) (fun vv s91 hq => ?_) (fun ee s91 hq => ?_)
              rotate_left
              · obtain ⟨Is91, Fs91, hv, hps91⟩ := hq; cases hv
              obtain ⟨Is91, Fs91, hv, hps91⟩ := hq
              cases hv
              have Gs91 := fm_ts Gs81 Fs91 (by decide) (by decide)
              have JBYW_s91 : BYW B N s91 := BYW_fm Fs91 (by decide) JBYW_s81
              have JTKS_s91 : TKS B N s91 := TKS_fm Fs91 (by decide) JTKS_s81
              have ws91_2 : iI s91 2 = iI s81 2 := fm_i Fs91 (by decide)
              have ws91_1 : iI s91 1 = iI s81 1 := fm_i Fs91 (by decide)
              have ws91_4 : iI s91 4 = iI s81 4 := fm_i Fs91 (by decide)
              have ws91_5 : iI s91 5 = iI s81 5 := fm_i Fs91 (by decide)
              have ws91_6 : iI s91 6 = iI s81 6 := fm_i Fs91 (by decide)
              have ws91_19 : iI s91 19 = iI s81 19 := fm_i Fs91 (by decide)
              have b93 : (0 : Int) ≤ iI s91 16 ∧ iI s91 16 ≤ 200 := Is91.1 16
              have ws91_7 : iI s91 7 = iI s81 7 := fm_i Fs91 (by decide)
              have dls91 : DL s91 = DL s81 ++ [(-15)] := by rw [hps91.2]
              show WS k 194 [(1, .int (Int32.ofInt (-15))), (0, .ref (A 19))] [] (Wd A dT s91) 0 0
              refine z_const X (show cdA 74 194 = some (.iconst 1, 1, 0, 0, 0) from rfl) ?_
              have hRD : RDc B N 5 (iI s 4) (iI s 19) (DL s) s91 1 := by have h := rd_s2 (o := iI s 19) (v := s91) (x := (-15)) (by omega) hnC (by have h := hps14.2.2.2; rw [show iI s9 4 = (iI s 4) by first | exact ws9_4 | omega, show iI s9 19 = iI s 19 by first | exact ws9_19 | omega] at h; exact h) (dls9) (by omega) hrl hop (by have h := hps81.2.2.2; rw [show iI s75 4 = sk B N (iI s14 4 + 1) by omega, show iI s75 19 = iI s 19 by omega] at h; exact h) (dls75) (by omega) (by omega) (fun _ => dls91); rw [show e82 = 1 by omega] at h; exact h
              exact w_iret X.1 q hRt (nar_ret (by first | exact Or.inr (by decide) | omega)) (ax_d X (show cdA 74 195 = some (.ireturn, 1, 0, 0, 0) from rfl)) (Nat.zero_le _) (Nat.zero_le _) ⟨_, rfl, Is91, Gs91, JBYW_s91, JTKS_s91, 1, rfl, (by decide), ⟨rd_post hRD rfl (by first | exact oq_e0f7ceb0 g23 hps14.1 ws9_4 | omega) (by first | exact b7.1 | omega) (by first | exact b93.1 | omega) (fun h9 => by first | exact oq_b6c8ed7c ws91_19 g90 b87.2 hps81.1 ws75_19 g23 hps14.1 ws9_19 p2 | omega), by first | exact oq_e7b9ecab ws91_1 ws91_2 hps81.2.1 | omega, by first | exact oq_e7b9ecab ws91_2 ws91_4 hps81.2.2.1 | omega, hRD⟩⟩
            ·
              refine z_const X (show cdA 74 187 = some (.iconst 0, 1, 0, 0, 0) from rfl) ?_
              have hRD : RDc B N 5 (iI s 4) (iI s 19) (DL s) s81 0 := by have h := rd_s2 (o := iI s 19) (v := s81) (x := (-15)) (by omega) hnC (by have h := hps14.2.2.2; rw [show iI s9 4 = (iI s 4) by first | exact ws9_4 | omega, show iI s9 19 = iI s 19 by first | exact ws9_19 | omega] at h; exact h) (dls9) (by omega) hrl hop (by have h := hps81.2.2.2; rw [show iI s75 4 = sk B N (iI s14 4 + 1) by omega, show iI s75 19 = iI s 19 by omega] at h; exact h) (dls75) (by omega) (by omega) (fun h => absurd (show e82 = 0 by omega) h); rw [show e82 = 0 by omega] at h; exact h
              exact w_iret X.1 q hRt (nar_ret (by first | exact Or.inl (by decide) | omega)) (ax_d X (show cdA 74 188 = some (.ireturn, 1, 0, 0, 0) from rfl)) (Nat.zero_le _) (Nat.zero_le _) ⟨_, rfl, Is81, Gs81, JBYW_s81, JTKS_s81, 0, rfl, (by decide), ⟨rd_post hRD rfl (by first | exact oq_e0f7ceb0 g23 hps14.1 ws9_4 | omega) (by first | exact b7.1 | omega) (by first | exact b88.1 | omega) (fun h9 => absurd rfl h9), by first | exact hps81.2.1 | omega, by first | exact hps81.2.2.1 | omega, hRD⟩⟩
          ·
            exfalso
            omega
      ·
        refine z_const X (show cdA 74 102 = some (.iconst 0, 1, 0, 0, 0) from rfl) ?_
        have hRD : RDc B N 5 (iI s 4) (iI s 19) (DL s) s14 0 := rd_bad (by have h := hps14.2.2.2; rw [show iI s9 4 = (iI s 4) by first | exact ws9_4 | omega, show iI s9 19 = iI s 19 by first | exact ws9_19 | omega] at h; exact h) (by omega) (by omega) (fun r h z => pt_sb (by omega) hnC h z)
        exact w_iret X.1 q hRt (nar_ret (by first | exact Or.inl (by decide) | omega)) (ax_d X (show cdA 74 103 = some (.ireturn, 1, 0, 0, 0) from rfl)) (Nat.zero_le _) (Nat.zero_le _) ⟨_, rfl, Is14, Gs14, JBYW_s14, JTKS_s14, 0, rfl, (by decide), ⟨rd_post hRD rfl (by omega) (by first | exact b7.1 | omega) (by first | exact b21.1 | omega) (fun h9 => absurd rfl h9), by first | exact hps14.2.1 | omega, by first | exact hps14.2.2.1 | omega, hRD⟩⟩
    ·
      have hC := (hc91.1 (by omega)).1
      have hA := (hc91.1 (by omega)).2
      refine z_aload_n X (x := A 19) (show cdA 74 58 = some (.aload_n 0, 1, 0, 0, 0) from rfl) (List.Mem.head _) ?_
      refine z_callV X 19 (rm := rmN 80) (As := []) (st := []) (show cdA 74 59 = some (.invokevirtual 113, 3, 80, 0, 0) from rfl) rfl (by decide) rfl (by rw [E.1, E.2.1, E.2.2.1]; exact c7_enter3 G Is9 JBYW_s9 JTKS_s9 (by first | exact oq_e7b9ecab ws9_1 ws9_2 p0 | omega) (by first | exact oq_e7b9ecab ws9_2 ws9_4 p1 | omega)) ⟨by rw [E.2.2.2]; exact (show 8 + 1 ≤ (12 + (32 + 3 * (0))) from oq_6e542e63), by rw [E.2.2.2]; exact (show 8 + (1 + 11) + 143 ≤ (500 + 45 * (32 + 3 * (0))) from oq_72d660e0), by rw [E.2.2.2]; exact Nat.le_refl 0, by rw [E.2.2.2]; exact Nat.le_refl 0⟩ (Nat.le_of_ble_eq_true rfl) (fun vv s94 hq => ?_) (fun ee s94 hq => ?_)
      rotate_left
      · obtain ⟨Is94, Fs94, JBYW_s94, JTKS_s94, e95, hv, hrs94, hps94⟩ := hq; cases hv
      obtain ⟨Is94, Fs94, JBYW_s94, JTKS_s94, e95, hv, hrs94, hps94⟩ := hq
      cases hv
      have Gs94 := fm_ts Gs9 Fs94 (by decide) (by decide)
      have JBYW_s94 : BYW B N s94 := BYW_fm Fs94 (by decide) JBYW_s9
      have b96 : (0 : Int) ≤ iI s94 2 ∧ iI s94 2 ≤ 200 := Is94.1 2
      have ws94_1 : iI s94 1 = iI s9 1 := fm_i Fs94 (by decide)
      have b97 : (0 : Int) ≤ iI s94 4 ∧ iI s94 4 ≤ 200 := Is94.1 4
      have b98 : ((-3) : Int) ≤ iI s94 5 ∧ iI s94 5 ≤ 255 := Is94.1 5
      have b99 : (0 : Int) ≤ iI s94 6 ∧ iI s94 6 ≤ 100000 := Is94.1 6
      have b100 : (0 : Int) ≤ iI s94 19 ∧ iI s94 19 ≤ 6 := Is94.1 19
      have ws94_16 : iI s94 16 = iI s9 16 := fm_i Fs94 (by decide)
      have b101 : (0 : Int) ≤ iI s94 7 ∧ iI s94 7 ≤ 9 := Is94.1 7
      have dls94 : DL s94 = DL s := (DL_fm Fs94 (by decide) (by decide)).trans dls9
      show WS k 62 [(0, .ref (A 19))] [.int (Int32.ofInt e95)] (Wd A dT s94) 0 0
      refine z_if_eq X (t := 81) (show cdA 74 62 = some (.ifCond .eq 19, 3, 0, 0, 0) from rfl) (by decide) hrs94 (fun g102 => ?_) (fun g102 => ?_)
      ·
        refine z_const X (show cdA 74 81 = some (.iconst 0, 1, 0, 0, 0) from rfl) ?_
        have hRD : RDc B N 5 (iI s 4) (iI s 19) (DL s) s94 0 := rd_no (pt_b3 (by omega) hC (by omega)) (by decide) (by omega)
        exact w_iret X.1 q hRt (nar_ret (by first | exact Or.inl (by decide) | omega)) (ax_d X (show cdA 74 82 = some (.ireturn, 1, 0, 0, 0) from rfl)) (Nat.zero_le _) (Nat.zero_le _) ⟨_, rfl, Is94, Gs94, JBYW_s94, JTKS_s94, 0, rfl, (by decide), ⟨rd_post hRD rfl (by omega) (by first | exact b7.1 | omega) (by first | exact oq_0f93fca7 ws94_16 ws9_16 b7.1 | omega) (fun h9 => absurd rfl h9), by first | exact hps94.2.1 | omega, by first | exact hps94.2.2 | omega, hRD⟩⟩
      ·
        exfalso
        omega
  ·
    have hk3 : iI s 5 = -3 := Classical.byContradiction (fun q => by have := hwd.2 q; omega)
    have ha3 := (hwd.1 hk3).1
    refine z_aload_n X (x := A 19) (show cdA 74 12 = some (.aload_n 0, 1, 0, 0, 0) from rfl) (List.Mem.head _) ?_
    refine z_callV X 19 (rm := rmN 80) (As := []) (st := []) (show cdA 74 13 = some (.invokevirtual 113, 3, 80, 0, 0) from rfl) rfl (by decide) rfl (by rw [E.1, E.2.1, E.2.2.1]; exact c7_enter3 G Is9 JBYW_s9 JTKS_s9 (by first | exact oq_e7b9ecab ws9_1 ws9_2 p0 | omega) (by first | exact oq_e7b9ecab ws9_2 ws9_4 p1 | omega)) ⟨by rw [E.2.2.2]; exact (show 8 + 1 ≤ (12 + (32 + 3 * (0))) from oq_6e542e63), by rw [E.2.2.2]; exact (show 8 + (1 + 11) + 143 ≤ (500 + 45 * (32 + 3 * (0))) from oq_72d660e0), by rw [E.2.2.2]; exact Nat.le_refl 0, by rw [E.2.2.2]; exact Nat.le_refl 0⟩ (Nat.le_of_ble_eq_true rfl) (fun vv s103 hq => ?_) (fun ee s103 hq => ?_)
    rotate_left
    · obtain ⟨Is103, Fs103, JBYW_s103, JTKS_s103, e104, hv, hrs103, hps103⟩ := hq; cases hv
    obtain ⟨Is103, Fs103, JBYW_s103, JTKS_s103, e104, hv, hrs103, hps103⟩ := hq
    cases hv
    have Gs103 := fm_ts Gs9 Fs103 (by decide) (by decide)
    have JBYW_s103 : BYW B N s103 := BYW_fm Fs103 (by decide) JBYW_s9
    have b105 : (0 : Int) ≤ iI s103 2 ∧ iI s103 2 ≤ 200 := Is103.1 2
    have ws103_1 : iI s103 1 = iI s9 1 := fm_i Fs103 (by decide)
    have b106 : (0 : Int) ≤ iI s103 4 ∧ iI s103 4 ≤ 200 := Is103.1 4
    have b107 : ((-3) : Int) ≤ iI s103 5 ∧ iI s103 5 ≤ 255 := Is103.1 5
    have b108 : (0 : Int) ≤ iI s103 6 ∧ iI s103 6 ≤ 100000 := Is103.1 6
    have b109 : (0 : Int) ≤ iI s103 19 ∧ iI s103 19 ≤ 6 := Is103.1 19
    have ws103_16 : iI s103 16 = iI s9 16 := fm_i Fs103 (by decide)
    have b110 : (0 : Int) ≤ iI s103 7 ∧ iI s103 7 ≤ 9 := Is103.1 7
    have dls103 : DL s103 = DL s := (DL_fm Fs103 (by decide) (by decide)).trans dls9
    show WS k 16 [(0, .ref (A 19))] [.int (Int32.ofInt e104)] (Wd A dT s103) 0 0
    refine z_if_eq X (t := 26) (show cdA 74 16 = some (.ifCond .eq 10, 3, 0, 0, 0) from rfl) (by decide) hrs103 (fun g111 => ?_) (fun g111 => ?_)
    ·
      refine z_const X (show cdA 74 26 = some (.iconst 0, 1, 0, 0, 0) from rfl) ?_
      have hRD : RDc B N 5 (iI s 4) (iI s 19) (DL s) s103 0 := rd_no (pt_n3 (by omega) (by omega)) (by decide) (by omega)
      exact w_iret X.1 q hRt (nar_ret (by first | exact Or.inl (by decide) | omega)) (ax_d X (show cdA 74 27 = some (.ireturn, 1, 0, 0, 0) from rfl)) (Nat.zero_le _) (Nat.zero_le _) ⟨_, rfl, Is103, Gs103, JBYW_s103, JTKS_s103, 0, rfl, (by decide), ⟨rd_post hRD rfl (by omega) (by first | exact b7.1 | omega) (by first | exact oq_0f93fca7 ws103_16 ws9_16 b7.1 | omega) (fun h9 => absurd rfl h9), by first | exact hps103.2.1 | omega, by first | exact hps103.2.2 | omega, hRD⟩⟩
    ·
      exfalso
      omega
set_option maxRecDepth 4000 in
theorem c7_testS3 (G : GX l s0 D tys a0 dT) {B : Nat → Int} {N : Int} (SF : SF0 s0) (GT : TXw0 s0) {r : Nat} (hT : ∀ {s : PS} , Bd s → BYW B N s → TKS B N s → (iI s 2 ≤ iI s 1) → (iI s 4 ≤ iI s 2) → (6 - iI s 19 ≤ ((r : Nat) : Int)) → (iI s 16 ≤ iI s 4) → CT l s0 D A dT 74 (rkR (32 + 3 * (r))) [.ref (A 19)] s (fun o t => Bd t ∧ Fm [2, 4, 6, 5, 7, 8, 19, 16] [18] s t ∧ BYW B N t ∧ TKS B N t ∧ ∃ e, o = .inl (some (.int (Int32.ofInt e))) ∧ rng e ∧ ((e = 0 ∨ (e = 1 ∧ iI t 19 = iI s 19 ∧ iI s 4 ≤ iI t 4 ∧ iI t 4 ≤ N ∧ iI t 16 + iI s 4 ≤ iI s 16 + iI t 4)) ∧ iI t 2 ≤ iI t 1 ∧ iI t 4 ≤ iI t 2 ∧ RDc B N 5 (iI s 4) (iI s 19) (DL s) t e))) (hE : ∀ {s : PS} , Bd s → BYW B N s → TKS B N s → (iI s 2 ≤ iI s 1) → (iI s 4 ≤ iI s 2) → (6 - iI s 19 ≤ ((r : Nat) : Int)) → (iI s 16 ≤ iI s 4) → CT l s0 D A dT 72 (rkR (32 + 3 * (r) + 2)) [.ref (A 19)] s (fun o t => Bd t ∧ Fm [2, 4, 6, 5, 7, 8, 19, 16] [18] s t ∧ BYW B N t ∧ TKS B N t ∧ ∃ e, o = .inl (some (.int (Int32.ofInt e))) ∧ rng e ∧ ((e = 0 ∨ (e = 1 ∧ iI t 19 = iI s 19 ∧ iI s 4 ≤ iI t 4 ∧ iI t 4 ≤ N ∧ iI t 16 + iI s 4 ≤ iI s 16 + iI t 4)) ∧ iI t 2 ≤ iI t 1 ∧ iI t 4 ≤ iI t 2 ∧ RDc B N 8 (iI s 4) (iI s 19) (DL s) t e))) (I : Bd s) (jBYW : BYW B N s) (jTKS : TKS B N s) (p0 : iI s 2 ≤ iI s 1) (p1 : iI s 4 ≤ iI s 2) (p2 : 6 - iI s 19 ≤ ((r + 1 : Nat) : Int)) (p3 : iI s 16 ≤ iI s 4) : CT l s0 D A dT 74 (rkR (32 + 3 * (r + 1))) [.ref (A 19)] s (fun o t => Bd t ∧ Fm [2, 4, 6, 5, 7, 8, 19, 16] [18] s t ∧ BYW B N t ∧ TKS B N t ∧ ∃ e, o = .inl (some (.int (Int32.ofInt e))) ∧ rng e ∧ ((e = 0 ∨ (e = 1 ∧ iI t 19 = iI s 19 ∧ iI s 4 ≤ iI t 4 ∧ iI t 4 ≤ N ∧ iI t 16 + iI s 4 ≤ iI s 16 + iI t 4)) ∧ iI t 2 ≤ iI t 1 ∧ iI t 4 ≤ iI t 2 ∧ RDc B N 5 (iI s 4) (iI s 19) (DL s) t e)) := by
  refine ct_ofX G (by decide) (Nat.le_of_ble_eq_true rfl) (fun k X E ET hRt hXt q => ?_)
  show WS k 0 [(0, .ref (A 19))] [] _ 0 0
  have F : Fm [2, 4, 6, 5, 7, 8, 19, 16] [18] s s := fm_rf _ _ s
  have hN := jBYW.2.1
  have hW := jBYW.2.2
  have hdg := tkw_dg jTKS
  have hwd := tkw_wd jTKS
  have hc91 := tkw_ch (x := 91) jTKS (by decide) (by decide) (by decide)
  have b1 : (0 : Int) ≤ iI s 2 ∧ iI s 2 ≤ 200 := I.1 2
  have b2 : (0 : Int) ≤ iI s 1 ∧ iI s 1 ≤ 200 := I.1 1
  have b3 : (0 : Int) ≤ iI s 4 ∧ iI s 4 ≤ 200 := I.1 4
  have b4 : ((-3) : Int) ≤ iI s 5 ∧ iI s 5 ≤ 255 := I.1 5
  have b5 : (0 : Int) ≤ iI s 6 ∧ iI s 6 ≤ 100000 := I.1 6
  have b6 : (0 : Int) ≤ iI s 19 ∧ iI s 19 ≤ 6 := I.1 19
  have b7 : (0 : Int) ≤ iI s 16 ∧ iI s 16 ≤ 200 := I.1 16
  have b8 : (0 : Int) ≤ iI s 7 ∧ iI s 7 ≤ 9 := I.1 7
  refine z_aload_n X (x := A 19) (show cdA 74 0 = some (.aload_n 0, 1, 0, 0, 0) from rfl) (List.Mem.head _) ?_
  refine s_getR X 19 (show cdA 74 1 = some (.getfield 31, 3, 7, 0, 0) from rfl) (by decide) rfl rfl ?_
  obtain ⟨tx111, q111, hR111, hS111⟩ := GT (111, [110, 111, 116]) (by decide)
  refine w_ldcK X (show vk_R (kOwn k) 111 tx111 q111 (kS0 k) by rw [E.2.1, X.2.1.2.1]; exact hR111) (show decode (kCc k) 4 = .ok (.ldc 111, 2) by rw [X.2.1.1]; decide +kernel) ?_
  refine z_callV X 1 (rm := rmN 131) (As := [.ref q111]) (st := []) (show cdA 74 6 = some (.invokevirtual 76, 3, 131, 0, 0) from rfl) rfl (by decide) rfl (by rw [E.1, E.2.1, E.2.2.1]; exact c10_says3 G SF hS111 (by decide) I jBYW jTKS (by first | exact p1 | omega)) ⟨by rw [E.2.2.2]; exact (show 11 + 1 ≤ (12 + (32 + 3 * (r + 1))) from oq_c9a3ea85 r), by rw [E.2.2.2]; exact (show 8 + (3 + 11) + 206 ≤ (500 + 45 * (32 + 3 * (r + 1))) from oq_5eb0540b r), by rw [E.2.2.2]; exact Nat.le_refl 0, by rw [E.2.2.2]; exact Nat.le_refl 0⟩ (Nat.le_of_ble_eq_true rfl) (fun vv s9 hq => ?_) (fun ee s9 hq => ?_)
  rotate_left
  · obtain ⟨Is9, Fs9, JBYW_s9, JTKS_s9, e10, hv, hrs9, hps9⟩ := hq; cases hv
  obtain ⟨Is9, Fs9, JBYW_s9, JTKS_s9, e10, hv, hrs9, hps9⟩ := hq
  cases hv
  have Gs9 := fm_ts F Fs9 (by decide) (by decide)
  have JBYW_s9 : BYW B N s9 := BYW_fm Fs9 (by decide) jBYW
  have JTKS_s9 : TKS B N s9 := TKS_fm Fs9 (by decide) jTKS
  have ws9_2 : iI s9 2 = iI s 2 := fm_i Fs9 (by decide)
  have ws9_1 : iI s9 1 = iI s 1 := fm_i Fs9 (by decide)
  have ws9_4 : iI s9 4 = iI s 4 := fm_i Fs9 (by decide)
  have ws9_5 : iI s9 5 = iI s 5 := fm_i Fs9 (by decide)
  have ws9_6 : iI s9 6 = iI s 6 := fm_i Fs9 (by decide)
  have ws9_19 : iI s9 19 = iI s 19 := fm_i Fs9 (by decide)
  have ws9_16 : iI s9 16 = iI s 16 := fm_i Fs9 (by decide)
  have ws9_7 : iI s9 7 = iI s 7 := fm_i Fs9 (by decide)
  have dls9 : DL s9 = DL s := (DL_fm Fs9 (by decide) (by decide)).trans rfl
  have hws9 : (e10 = 1 ∧ whV B N (iI s 4) = 10631) ∨ (e10 = 0 ∧ whV B N (iI s 4) ≠ 10631) := by have h := hps9; rw [show iI s 4 = iI s 4 by omega, show whL [110, 111, 116] 0 = 10631 by decide] at h; exact h
  show WS k 9 [(0, .ref (A 19))] [.int (Int32.ofInt e10)] (Wd A dT s9) 0 0
  refine z_if_eq X (t := 46) (show cdA 74 9 = some (.ifCond .eq 37, 3, 0, 0, 0) from rfl) (by decide) hrs9 (fun g11 => ?_) (fun g11 => ?_)
  ·
    refine z_aload_n X (x := A 19) (show cdA 74 46 = some (.aload_n 0, 1, 0, 0, 0) from rfl) (List.Mem.head _) ?_
    refine s_getR X 19 (show cdA 74 47 = some (.getfield 31, 3, 7, 0, 0) from rfl) (by decide) rfl rfl ?_
    refine z_getI X 1 (show cdA 74 50 = some (.getfield 47, 3, 10, 6, 0) from rfl) (by decide) rfl rfl ?_
    have b12 : ((-3) : Int) ≤ iI s9 5 ∧ iI s9 5 ≤ 255 := Is9.1 5
    refine z_bipush X (show cdA 74 53 = some (.bipush 91, 2, 0, 0, 91) from rfl) ?_
    refine z_icmp_ne X (t := 95) (show cdA 74 55 = some (.if_icmp .ne 40, 3, 1, 0, 0) from rfl) (by decide) (rng_to _) (by decide) (fun g13 => ?_) (fun g13 => ?_)
    ·
      have hnC := hc91.2 (by omega)
      refine z_aload_n X (x := A 19) (show cdA 74 95 = some (.aload_n 0, 1, 0, 0, 0) from rfl) (List.Mem.head _) ?_
      refine z_callV X 19 (rm := (rkR (4 * (7) + 3))) (As := []) (st := []) (show cdA 74 96 = some (.invokevirtual 88, 3, 75, 0, 0) from rfl) rfl (by decide) rfl (by rw [E.1, E.2.1, E.2.2.1]; exact (c7_sumr3 G (B := B) (N := N) SF GT 7).2.2.2 Is9 JBYW_s9 JTKS_s9 (by first | exact oq_e7b9ecab ws9_1 ws9_2 p0 | omega) (by first | exact oq_e7b9ecab ws9_2 ws9_4 p1 | omega) (by first | exact oq_ba167e5f ws9_19 b6.1 | omega) (by first | exact oq_e7b9ecab ws9_4 ws9_16 p3 | omega)) ⟨by rw [E.2.2.2]; exact (show (12 + (4 * (7) + 3)) + 1 ≤ (12 + (32 + 3 * (r + 1))) from oq_e0a8f0a0 r), by rw [E.2.2.2]; exact (show 8 + (3 + 11) + (500 + 45 * (4 * (7) + 3)) ≤ (500 + 45 * (32 + 3 * (r + 1))) from oq_eacdd764 r), by rw [E.2.2.2]; exact Nat.le_refl 0, by rw [E.2.2.2]; exact Nat.le_refl 0⟩ (Nat.le_of_ble_eq_true rfl) (fun vv s14 hq => ?_) (fun ee s14 hq => ?_)
      rotate_left
      · obtain ⟨Is14, Fs14, JBYW_s14, JTKS_s14, e15, hv, hrs14, hps14⟩ := hq; cases hv
      obtain ⟨Is14, Fs14, JBYW_s14, JTKS_s14, e15, hv, hrs14, hps14⟩ := hq
      cases hv
      have Gs14 := fm_ts Gs9 Fs14 (by decide) (by decide)
      have JBYW_s14 : BYW B N s14 := BYW_fm Fs14 (by decide) JBYW_s9
      have b16 : (0 : Int) ≤ iI s14 2 ∧ iI s14 2 ≤ 200 := Is14.1 2
      have ws14_1 : iI s14 1 = iI s9 1 := fm_i Fs14 (by decide)
      have b17 : (0 : Int) ≤ iI s14 4 ∧ iI s14 4 ≤ 200 := Is14.1 4
      have b18 : ((-3) : Int) ≤ iI s14 5 ∧ iI s14 5 ≤ 255 := Is14.1 5
      have b19 : (0 : Int) ≤ iI s14 6 ∧ iI s14 6 ≤ 100000 := Is14.1 6
      have b20 : (0 : Int) ≤ iI s14 19 ∧ iI s14 19 ≤ 6 := Is14.1 19
      have b21 : (0 : Int) ≤ iI s14 16 ∧ iI s14 16 ≤ 200 := Is14.1 16
      have b22 : (0 : Int) ≤ iI s14 7 ∧ iI s14 7 ≤ 9 := Is14.1 7
      show WS k 99 [(0, .ref (A 19))] [.int (Int32.ofInt e15)] (Wd A dT s14) 0 0
      refine z_if_ne X (t := 104) (show cdA 74 99 = some (.ifCond .ne 5, 3, 1, 0, 0) from rfl) (by decide) hrs14 (fun g23 => ?_) (fun g23 => ?_)
      ·
        have hc60 := tkw_ch (x := 60) JTKS_s14 (by decide) (by decide) (by decide)
        have hc62 := tkw_ch (x := 62) JTKS_s14 (by decide) (by decide) (by decide)
        have hc61 := tkw_ch (x := 61) JTKS_s14 (by decide) (by decide) (by decide)
        refine z_aload_n X (x := A 19) (show cdA 74 104 = some (.aload_n 0, 1, 0, 0, 0) from rfl) (List.Mem.head _) ?_
        refine s_getR X 19 (show cdA 74 105 = some (.getfield 31, 3, 7, 0, 0) from rfl) (by decide) rfl rfl ?_
        refine z_getI X 1 (show cdA 74 108 = some (.getfield 47, 3, 10, 6, 0) from rfl) (by decide) rfl rfl ?_
        have b24 : ((-3) : Int) ≤ iI s14 5 ∧ iI s14 5 ≤ 255 := Is14.1 5
        refine z_bipush X (show cdA 74 111 = some (.bipush 60, 2, 0, 0, 60) from rfl) ?_
        refine z_icmp_ne X (t := 121) (show cdA 74 113 = some (.if_icmp .ne 8, 3, 1, 0, 0) from rfl) (by decide) (rng_to _) (by decide) (fun g25 => ?_) (fun g25 => ?_)
        ·
          refine z_aload_n X (x := A 19) (show cdA 74 121 = some (.aload_n 0, 1, 0, 0, 0) from rfl) (List.Mem.head _) ?_
          refine s_getR X 19 (show cdA 74 122 = some (.getfield 31, 3, 7, 0, 0) from rfl) (by decide) rfl rfl ?_
          refine z_getI X 1 (show cdA 74 125 = some (.getfield 47, 3, 10, 6, 0) from rfl) (by decide) rfl rfl ?_
          have b26 : ((-3) : Int) ≤ iI s14 5 ∧ iI s14 5 ≤ 255 := Is14.1 5
          refine z_bipush X (show cdA 74 128 = some (.bipush 62, 2, 0, 0, 62) from rfl) ?_
          refine z_icmp_ne X (t := 138) (show cdA 74 130 = some (.if_icmp .ne 8, 3, 1, 0, 0) from rfl) (by decide) (rng_to _) (by decide) (fun g27 => ?_) (fun g27 => ?_)
          ·
            refine z_aload_n X (x := A 19) (show cdA 74 138 = some (.aload_n 0, 1, 0, 0, 0) from rfl) (List.Mem.head _) ?_
            refine s_getR X 19 (show cdA 74 139 = some (.getfield 31, 3, 7, 0, 0) from rfl) (by decide) rfl rfl ?_
            refine z_getI X 1 (show cdA 74 142 = some (.getfield 47, 3, 10, 6, 0) from rfl) (by decide) rfl rfl ?_
            have b28 : ((-3) : Int) ≤ iI s14 5 ∧ iI s14 5 ≤ 255 := Is14.1 5
            refine z_bipush X (show cdA 74 145 = some (.bipush 61, 2, 0, 0, 61) from rfl) ?_
            refine z_icmp_ne X (t := 155) (show cdA 74 147 = some (.if_icmp .ne 8, 3, 1, 0, 0) from rfl) (by decide) (rng_to _) (by decide) (fun g29 => ?_) (fun g29 => ?_)
            ·
              refine z_bipush X (show cdA 74 155 = some (.bipush (-20), 2, 0, 0, (-20)) from rfl) ?_
              refine z_store_n X (lv' := [(1, .int (Int32.ofInt (-20))), (0, .ref (A 19))]) (show cdA 74 157 = some (.istore_n 1, 1, 0, 0, 0) from rfl) (by decide) (fun _ h => h) ?_
              refine z_load_n X (x := (-20)) (show cdA 74 158 = some (.iload_n 1, 1, 0, 0, 0) from rfl) (List.Mem.head _) ?_
              refine z_bipush X (show cdA 74 159 = some (.bipush (-20), 2, 0, 0, (-20)) from rfl) ?_
              refine z_icmp_ne X (t := 173) (show cdA 74 161 = some (.if_icmp .ne 12, 3, 1, 0, 0) from rfl) (by decide) (by decide) (by decide) (fun g30 => ?_) (fun g30 => ?_)
              ·
                exfalso
                omega
              ·
                refine z_aload_n X (x := A 19) (show cdA 74 164 = some (.aload_n 0, 1, 0, 0, 0) from rfl) (List.Mem.tail _ (List.Mem.head _)) ?_
                refine s_getR X 19 (show cdA 74 165 = some (.getfield 31, 3, 7, 0, 0) from rfl) (by decide) rfl rfl ?_
                refine z_const X (show cdA 74 168 = some (.iconst 1, 1, 0, 0, 0) from rfl) ?_
                refine z_callV X 1 (rm := rmN 132) (As := [.int (Int32.ofInt 1)]) (st := []) (show cdA 74 169 = some (.invokevirtual 82, 3, 132, 0, 0) from rfl) rfl (by decide) rfl (by rw [E.1, E.2.1, E.2.2.1]; exact c10_refuse3 G Is14 (by first | exact ⟨by decide, by decide⟩ | omega)) ⟨by rw [E.2.2.2]; exact (show 7 + 1 ≤ (12 + (32 + 3 * (r + 1))) from oq_36a63932 r), by rw [E.2.2.2]; exact (show 8 + (2 + 11) + 122 ≤ (500 + 45 * (32 + 3 * (r + 1))) from oq_562d3263 r), by rw [E.2.2.2]; exact Nat.le_refl 0, by rw [E.2.2.2]; exact Nat.le_refl 0⟩ (Nat.le_of_ble_eq_true rfl) (fun vv s31 hq => ?_) (fun ee s31 hq => ?_)
                rotate_left
                · obtain ⟨Is31, Fs31, e32, hv, hrs31, hps31⟩ := hq; cases hv
                obtain ⟨Is31, Fs31, e32, hv, hrs31, hps31⟩ := hq
                cases hv
                have Gs31 := fm_ts Gs14 Fs31 (by decide) (by decide)
                have JBYW_s31 : BYW B N s31 := BYW_fm Fs31 (by decide) JBYW_s14
                have JTKS_s31 : TKS B N s31 := TKS_fm Fs31 (by decide) JTKS_s14
                have ws31_2 : iI s31 2 = iI s14 2 := fm_i Fs31 (by decide)
                have ws31_1 : iI s31 1 = iI s14 1 := fm_i Fs31 (by decide)
                have ws31_4 : iI s31 4 = iI s14 4 := fm_i Fs31 (by decide)
                have ws31_5 : iI s31 5 = iI s14 5 := fm_i Fs31 (by decide)
                have ws31_6 : iI s31 6 = iI s14 6 := fm_i Fs31 (by decide)
                have ws31_19 : iI s31 19 = iI s14 19 := fm_i Fs31 (by decide)
                have ws31_16 : iI s31 16 = iI s14 16 := fm_i Fs31 (by decide)
                have b33 : (0 : Int) ≤ iI s31 7 ∧ iI s31 7 ≤ 9 := Is31.1 7
                have dls31 : DL s31 = DL s14 := (DL_fm Fs31 (by decide) (by decide)).trans rfl
                show WS k 172 [(1, .int (Int32.ofInt (-20))), (0, .ref (A 19))] [.int (Int32.ofInt e32)] (Wd A dT s31) 0 0
                have hRD : RDc B N 5 (iI s 4) (iI s 19) (DL s) s31 e32 := by rw [show e32 = 0 by omega]; exact rd_sn (by omega) hnC (by have h := hps14.2.2.2; rw [show iI s9 4 = (iI s 4) by first | exact ws9_4 | omega, show iI s9 19 = iI s 19 by first | exact ws9_19 | omega] at h; exact h) (by omega) (fun q => by exact Or.elim q (fun q => by exact hc60.2 (by omega) q) (fun q => Or.elim q (fun q => by exact hc62.2 (by omega) q) (fun q => by exact hc61.2 (by omega) q))) (by omega)
                exact w_iret X.1 q hRt (nar_ret (by first | exact Or.inl (hps31.1) | omega)) (ax_d X (show cdA 74 172 = some (.ireturn, 1, 0, 0, 0) from rfl)) (Nat.zero_le _) (Nat.zero_le _) ⟨_, rfl, Is31, Gs31, JBYW_s31, JTKS_s31, e32, rfl, hrs31, ⟨rd_post hRD rfl (by first | exact oq_e0f7ceb0 g23 hps14.1 ws9_4 | omega) (by first | exact b7.1 | omega) (by first | exact oq_e4757433 ws31_16 b21.1 | omega) (fun h9 => by first | exact oq_773b88bb ws31_19 g23 hps14.1 ws9_19 | omega), by first | exact oq_e7b9ecab ws31_1 ws31_2 hps14.2.1 | omega, by first | exact oq_e7b9ecab ws31_2 ws31_4 hps14.2.2.1 | omega, hRD⟩⟩
            ·
              refine z_bipush X (show cdA 74 150 = some (.bipush (-17), 2, 0, 0, (-17)) from rfl) ?_
              refine z_goto X (t := 157) (show cdA 74 152 = some (.goto 5, 3, 0, 0, 0) from rfl) (by decide) ?_
              refine z_store_n X (lv' := [(1, .int (Int32.ofInt (-17))), (0, .ref (A 19))]) (show cdA 74 157 = some (.istore_n 1, 1, 0, 0, 0) from rfl) (by decide) (fun _ h => h) ?_
              refine z_load_n X (x := (-17)) (show cdA 74 158 = some (.iload_n 1, 1, 0, 0, 0) from rfl) (List.Mem.head _) ?_
              refine z_bipush X (show cdA 74 159 = some (.bipush (-20), 2, 0, 0, (-20)) from rfl) ?_
              refine z_icmp_ne X (t := 173) (show cdA 74 161 = some (.if_icmp .ne 12, 3, 1, 0, 0) from rfl) (by decide) (by decide) (by decide) (fun g34 => ?_) (fun g34 => ?_)
              ·
                refine z_aload_n X (x := A 19) (show cdA 74 173 = some (.aload_n 0, 1, 0, 0, 0) from rfl) (List.Mem.tail _ (List.Mem.head _)) ?_
                refine s_getR X 19 (show cdA 74 174 = some (.getfield 31, 3, 7, 0, 0) from rfl) (by decide) rfl rfl ?_
                have hz9 := hc61.1 (by omega)
                have hrl : rlT B N (iI s14 4) := Or.inr (Or.inr hz9.1)
                have hop : ((-17) : Int) = opC B (iI s14 4) := by unfold opC; rw [hz9.1.2]; decide
                refine z_callV X 1 (rm := rmN 129) (As := []) (st := []) (show cdA 74 177 = some (.invokevirtual 85, 3, 129, 0, 0) from rfl) rfl (by decide) rfl (by rw [E.1, E.2.1, E.2.2.1]; exact c10_step3 G Is14 JBYW_s14 (by first | exact hps14.2.1 | omega)) ⟨by rw [E.2.2.2]; exact (show 7 + 1 ≤ (12 + (32 + 3 * (r + 1))) from oq_36a63932 r), by rw [E.2.2.2]; exact (show 8 + (1 + 11) + 121 ≤ (500 + 45 * (32 + 3 * (r + 1))) from oq_ab0c04be r), by rw [E.2.2.2]; exact Nat.le_refl 0, by rw [E.2.2.2]; exact Nat.le_refl 0⟩ (Nat.le_of_ble_eq_true rfl) (fun vv s35 hq => ?_) (fun ee s35 hq => ?_)
                rotate_left
                · obtain ⟨Is35, Fs35, JBYW_s35, JTKS_s35, hv, hps35⟩ := hq; cases hv
                obtain ⟨Is35, Fs35, JBYW_s35, JTKS_s35, hv, hps35⟩ := hq
                cases hv
                have Gs35 := fm_ts Gs14 Fs35 (by decide) (by decide)
                have JBYW_s35 : BYW B N s35 := BYW_fm Fs35 (by decide) JBYW_s14
                have b37 : (0 : Int) ≤ iI s35 2 ∧ iI s35 2 ≤ 200 := Is35.1 2
                have ws35_1 : iI s35 1 = iI s14 1 := fm_i Fs35 (by decide)
                have b38 : (0 : Int) ≤ iI s35 4 ∧ iI s35 4 ≤ 200 := Is35.1 4
                have b39 : ((-3) : Int) ≤ iI s35 5 ∧ iI s35 5 ≤ 255 := Is35.1 5
                have b40 : (0 : Int) ≤ iI s35 6 ∧ iI s35 6 ≤ 100000 := Is35.1 6
                have ws35_19 : iI s35 19 = iI s14 19 := fm_i Fs35 (by decide)
                have ws35_16 : iI s35 16 = iI s14 16 := fm_i Fs35 (by decide)
                have ws35_7 : iI s35 7 = iI s14 7 := fm_i Fs35 (by decide)
                have dls35 : DL s35 = DL s14 := (DL_fm Fs35 (by decide) (by decide)).trans rfl
                show WS k 180 [(1, .int (Int32.ofInt (-17))), (0, .ref (A 19))] [] (Wd A dT s35) 0 0
                have hs9 : iI s35 4 = sk B N (iI s14 4 + 1) := by rw [hps35.2.2.1, show iI s14 2 = iI s14 4 + 1 by omega]
                refine z_aload_n X (x := A 19) (show cdA 74 180 = some (.aload_n 0, 1, 0, 0, 0) from rfl) (List.Mem.tail _ (List.Mem.head _)) ?_
                refine z_callV X 19 (rm := (rkR (4 * (7) + 3))) (As := []) (st := []) (show cdA 74 181 = some (.invokevirtual 88, 3, 75, 0, 0) from rfl) rfl (by decide) rfl (by rw [E.1, E.2.1, E.2.2.1]; exact (c7_sumr3 G (B := B) (N := N) SF GT 7).2.2.2 Is35 JBYW_s35 JTKS_s35 (by first | exact hps35.1 | omega) (by first | exact hps35.2.1 | omega) (by first | exact oq_ba167e5f ws35_19 b20.1 | omega) (by first | exact oq_0089538a ws35_16 hps35.2.2.2 g23 hps14.2.2.1 hps14.1 ws9_16 ws9_4 p3 | omega)) ⟨by rw [E.2.2.2]; exact (show (12 + (4 * (7) + 3)) + 1 ≤ (12 + (32 + 3 * (r + 1))) from oq_e0a8f0a0 r), by rw [E.2.2.2]; exact (show 8 + (3 + 11) + (500 + 45 * (4 * (7) + 3)) ≤ (500 + 45 * (32 + 3 * (r + 1))) from oq_eacdd764 r), by rw [E.2.2.2]; exact Nat.le_refl 0, by rw [E.2.2.2]; exact Nat.le_refl 0⟩ (Nat.le_of_ble_eq_true rfl) (fun vv s41 hq => ?_) (fun ee s41 hq => ?_)
                rotate_left
                · obtain ⟨Is41, Fs41, JBYW_s41, JTKS_s41, e42, hv, hrs41, hps41⟩ := hq; cases hv
                obtain ⟨Is41, Fs41, JBYW_s41, JTKS_s41, e42, hv, hrs41, hps41⟩ := hq
                cases hv
                have Gs41 := fm_ts Gs35 Fs41 (by decide) (by decide)
                have JBYW_s41 : BYW B N s41 := BYW_fm Fs41 (by decide) JBYW_s35
                have b43 : (0 : Int) ≤ iI s41 2 ∧ iI s41 2 ≤ 200 := Is41.1 2
                have ws41_1 : iI s41 1 = iI s35 1 := fm_i Fs41 (by decide)
                have b44 : (0 : Int) ≤ iI s41 4 ∧ iI s41 4 ≤ 200 := Is41.1 4
                have b45 : ((-3) : Int) ≤ iI s41 5 ∧ iI s41 5 ≤ 255 := Is41.1 5
                have b46 : (0 : Int) ≤ iI s41 6 ∧ iI s41 6 ≤ 100000 := Is41.1 6
                have b47 : (0 : Int) ≤ iI s41 19 ∧ iI s41 19 ≤ 6 := Is41.1 19
                have b48 : (0 : Int) ≤ iI s41 16 ∧ iI s41 16 ≤ 200 := Is41.1 16
                have b49 : (0 : Int) ≤ iI s41 7 ∧ iI s41 7 ≤ 9 := Is41.1 7
                show WS k 184 [(1, .int (Int32.ofInt (-17))), (0, .ref (A 19))] [.int (Int32.ofInt e42)] (Wd A dT s41) 0 0
                refine z_if_ne X (t := 189) (show cdA 74 184 = some (.ifCond .ne 5, 3, 1, 0, 0) from rfl) (by decide) hrs41 (fun g50 => ?_) (fun g50 => ?_)
                ·
                  refine z_aload_n X (x := A 19) (show cdA 74 189 = some (.aload_n 0, 1, 0, 0, 0) from rfl) (List.Mem.tail _ (List.Mem.head _)) ?_
                  refine z_load_n X (x := (-17)) (show cdA 74 190 = some (.iload_n 1, 1, 0, 0, 0) from rfl) (List.Mem.head _) ?_
                  refine z_callV X 19 (rm := rmN 82) (As := [.int (Int32.ofInt (-17))]) (st := []) (show cdA 74 191 = some (.invokevirtual 103, 3, 82, 0, 0) from rfl) rfl (by decide) rfl (by rw [E.1, E.2.1, E.2.2.1]; exact c7_put3 G Is41 (by first | exact ⟨by decide, by decide⟩ | omega) (by omega)) ⟨by rw [E.2.2.2]; exact (show 6 + 1 ≤ (12 + (32 + 3 * (r + 1))) from oq_65b7d3a7 r), by rw [E.2.2.2]; exact (show 8 + (2 + 11) + 100 ≤ (500 + 45 * (32 + 3 * (r + 1))) from oq_bfe32ab2 r), by rw [E.2.2.2]; exact Nat.le_refl 0, by rw [E.2.2.2]; exact Nat.le_refl 0⟩ (Nat.le_of_ble_eq_true rfl) (fun vv s51 hq => ?_) (fun ee s51 hq => ?_)
                  rotate_left
                  · obtain ⟨Is51, Fs51, hv, hps51⟩ := hq; cases hv
                  obtain ⟨Is51, Fs51, hv, hps51⟩ := hq
                  cases hv
                  have Gs51 := fm_ts Gs41 Fs51 (by decide) (by decide)
                  have JBYW_s51 : BYW B N s51 := BYW_fm Fs51 (by decide) JBYW_s41
                  have JTKS_s51 : TKS B N s51 := TKS_fm Fs51 (by decide) JTKS_s41
                  have ws51_2 : iI s51 2 = iI s41 2 := fm_i Fs51 (by decide)
                  have ws51_1 : iI s51 1 = iI s41 1 := fm_i Fs51 (by decide)
                  have ws51_4 : iI s51 4 = iI s41 4 := fm_i Fs51 (by decide)
                  have ws51_5 : iI s51 5 = iI s41 5 := fm_i Fs51 (by decide)
                  have ws51_6 : iI s51 6 = iI s41 6 := fm_i Fs51 (by decide)
                  have ws51_19 : iI s51 19 = iI s41 19 := fm_i Fs51 (by decide)
                  have b53 : (0 : Int) ≤ iI s51 16 ∧ iI s51 16 ≤ 200 := Is51.1 16
                  have ws51_7 : iI s51 7 = iI s41 7 := fm_i Fs51 (by decide)
                  have dls51 : DL s51 = DL s41 ++ [(-17)] := by rw [hps51.2]
                  show WS k 194 [(1, .int (Int32.ofInt (-17))), (0, .ref (A 19))] [] (Wd A dT s51) 0 0
                  refine z_const X (show cdA 74 194 = some (.iconst 1, 1, 0, 0, 0) from rfl) ?_
                  have hRD : RDc B N 5 (iI s 4) (iI s 19) (DL s) s51 1 := by have h := rd_s2 (o := iI s 19) (v := s51) (x := (-17)) (by omega) hnC (by have h := hps14.2.2.2; rw [show iI s9 4 = (iI s 4) by first | exact ws9_4 | omega, show iI s9 19 = iI s 19 by first | exact ws9_19 | omega] at h; exact h) (dls9) (by omega) hrl hop (by have h := hps41.2.2.2; rw [show iI s35 4 = sk B N (iI s14 4 + 1) by omega, show iI s35 19 = iI s 19 by omega] at h; exact h) (dls35) (by omega) (by omega) (fun _ => dls51); rw [show e42 = 1 by omega] at h; exact h
                  exact w_iret X.1 q hRt (nar_ret (by first | exact Or.inr (by decide) | omega)) (ax_d X (show cdA 74 195 = some (.ireturn, 1, 0, 0, 0) from rfl)) (Nat.zero_le _) (Nat.zero_le _) ⟨_, rfl, Is51, Gs51, JBYW_s51, JTKS_s51, 1, rfl, (by decide), ⟨rd_post hRD rfl (by first | exact oq_e0f7ceb0 g23 hps14.1 ws9_4 | omega) (by first | exact b7.1 | omega) (by first | exact b53.1 | omega) (fun h9 => by first | exact oq_42ab5adf ws51_19 g50 hps41.1 ws35_19 g23 hps14.1 ws9_19 | omega), by first | exact oq_e7b9ecab ws51_1 ws51_2 hps41.2.1 | omega, by first | exact oq_e7b9ecab ws51_2 ws51_4 hps41.2.2.1 | omega, hRD⟩⟩
                ·
                  refine z_const X (show cdA 74 187 = some (.iconst 0, 1, 0, 0, 0) from rfl) ?_
                  have hRD : RDc B N 5 (iI s 4) (iI s 19) (DL s) s41 0 := by have h := rd_s2 (o := iI s 19) (v := s41) (x := (-17)) (by omega) hnC (by have h := hps14.2.2.2; rw [show iI s9 4 = (iI s 4) by first | exact ws9_4 | omega, show iI s9 19 = iI s 19 by first | exact ws9_19 | omega] at h; exact h) (dls9) (by omega) hrl hop (by have h := hps41.2.2.2; rw [show iI s35 4 = sk B N (iI s14 4 + 1) by omega, show iI s35 19 = iI s 19 by omega] at h; exact h) (dls35) (by omega) (by omega) (fun h => absurd (show e42 = 0 by omega) h); rw [show e42 = 0 by omega] at h; exact h
                  exact w_iret X.1 q hRt (nar_ret (by first | exact Or.inl (by decide) | omega)) (ax_d X (show cdA 74 188 = some (.ireturn, 1, 0, 0, 0) from rfl)) (Nat.zero_le _) (Nat.zero_le _) ⟨_, rfl, Is41, Gs41, JBYW_s41, JTKS_s41, 0, rfl, (by decide), ⟨rd_post hRD rfl (by first | exact oq_e0f7ceb0 g23 hps14.1 ws9_4 | omega) (by first | exact b7.1 | omega) (by first | exact b48.1 | omega) (fun h9 => absurd rfl h9), by first | exact hps41.2.1 | omega, by first | exact hps41.2.2.1 | omega, hRD⟩⟩
              ·
                exfalso
                omega
          ·
            refine z_bipush X (show cdA 74 133 = some (.bipush (-16), 2, 0, 0, (-16)) from rfl) ?_
            refine z_goto X (t := 157) (show cdA 74 135 = some (.goto 22, 3, 0, 0, 0) from rfl) (by decide) ?_
            refine z_store_n X (lv' := [(1, .int (Int32.ofInt (-16))), (0, .ref (A 19))]) (show cdA 74 157 = some (.istore_n 1, 1, 0, 0, 0) from rfl) (by decide) (fun _ h => h) ?_
            refine z_load_n X (x := (-16)) (show cdA 74 158 = some (.iload_n 1, 1, 0, 0, 0) from rfl) (List.Mem.head _) ?_
            refine z_bipush X (show cdA 74 159 = some (.bipush (-20), 2, 0, 0, (-20)) from rfl) ?_
            refine z_icmp_ne X (t := 173) (show cdA 74 161 = some (.if_icmp .ne 12, 3, 1, 0, 0) from rfl) (by decide) (by decide) (by decide) (fun g54 => ?_) (fun g54 => ?_)
            ·
              refine z_aload_n X (x := A 19) (show cdA 74 173 = some (.aload_n 0, 1, 0, 0, 0) from rfl) (List.Mem.tail _ (List.Mem.head _)) ?_
              refine s_getR X 19 (show cdA 74 174 = some (.getfield 31, 3, 7, 0, 0) from rfl) (by decide) rfl rfl ?_
              have hz9 := hc62.1 (by omega)
              have hrl : rlT B N (iI s14 4) := Or.inr (Or.inl hz9.1)
              have hop : ((-16) : Int) = opC B (iI s14 4) := by unfold opC; rw [hz9.1.2]; decide
              refine z_callV X 1 (rm := rmN 129) (As := []) (st := []) (show cdA 74 177 = some (.invokevirtual 85, 3, 129, 0, 0) from rfl) rfl (by decide) rfl (by rw [E.1, E.2.1, E.2.2.1]; exact c10_step3 G Is14 JBYW_s14 (by first | exact hps14.2.1 | omega)) ⟨by rw [E.2.2.2]; exact (show 7 + 1 ≤ (12 + (32 + 3 * (r + 1))) from oq_36a63932 r), by rw [E.2.2.2]; exact (show 8 + (1 + 11) + 121 ≤ (500 + 45 * (32 + 3 * (r + 1))) from oq_ab0c04be r), by rw [E.2.2.2]; exact Nat.le_refl 0, by rw [E.2.2.2]; exact Nat.le_refl 0⟩ (Nat.le_of_ble_eq_true rfl) (fun vv s55 hq => ?_) (fun ee s55 hq => ?_)
              rotate_left
              · obtain ⟨Is55, Fs55, JBYW_s55, JTKS_s55, hv, hps55⟩ := hq; cases hv
              obtain ⟨Is55, Fs55, JBYW_s55, JTKS_s55, hv, hps55⟩ := hq
              cases hv
              have Gs55 := fm_ts Gs14 Fs55 (by decide) (by decide)
              have JBYW_s55 : BYW B N s55 := BYW_fm Fs55 (by decide) JBYW_s14
              have b57 : (0 : Int) ≤ iI s55 2 ∧ iI s55 2 ≤ 200 := Is55.1 2
              have ws55_1 : iI s55 1 = iI s14 1 := fm_i Fs55 (by decide)
              have b58 : (0 : Int) ≤ iI s55 4 ∧ iI s55 4 ≤ 200 := Is55.1 4
              have b59 : ((-3) : Int) ≤ iI s55 5 ∧ iI s55 5 ≤ 255 := Is55.1 5
              have b60 : (0 : Int) ≤ iI s55 6 ∧ iI s55 6 ≤ 100000 := Is55.1 6
              have ws55_19 : iI s55 19 = iI s14 19 := fm_i Fs55 (by decide)
              have ws55_16 : iI s55 16 = iI s14 16 := fm_i Fs55 (by decide)
              have ws55_7 : iI s55 7 = iI s14 7 := fm_i Fs55 (by decide)
              have dls55 : DL s55 = DL s14 := (DL_fm Fs55 (by decide) (by decide)).trans rfl
              show WS k 180 [(1, .int (Int32.ofInt (-16))), (0, .ref (A 19))] [] (Wd A dT s55) 0 0
              have hs9 : iI s55 4 = sk B N (iI s14 4 + 1) := by rw [hps55.2.2.1, show iI s14 2 = iI s14 4 + 1 by omega]
              refine z_aload_n X (x := A 19) (show cdA 74 180 = some (.aload_n 0, 1, 0, 0, 0) from rfl) (List.Mem.tail _ (List.Mem.head _)) ?_
              refine z_callV X 19 (rm := (rkR (4 * (7) + 3))) (As := []) (st := []) (show cdA 74 181 = some (.invokevirtual 88, 3, 75, 0, 0) from rfl) rfl (by decide) rfl (by rw [E.1, E.2.1, E.2.2.1]; exact (c7_sumr3 G (B := B) (N := N) SF GT 7).2.2.2 Is55 JBYW_s55 JTKS_s55 (by first | exact hps55.1 | omega) (by first | exact hps55.2.1 | omega) (by first | exact oq_ba167e5f ws55_19 b20.1 | omega) (by first | exact oq_0089538a ws55_16 hps55.2.2.2 g23 hps14.2.2.1 hps14.1 ws9_16 ws9_4 p3 | omega)) ⟨by rw [E.2.2.2]; exact (show (12 + (4 * (7) + 3)) + 1 ≤ (12 + (32 + 3 * (r + 1))) from oq_e0a8f0a0 r), by rw [E.2.2.2]; exact (show 8 + (3 + 11) + (500 + 45 * (4 * (7) + 3)) ≤ (500 + 45 * (32 + 3 * (r + 1))) from oq_eacdd764 r), by rw [E.2.2.2]; exact Nat.le_refl 0, by rw [E.2.2.2]; exact Nat.le_refl 0⟩ (Nat.le_of_ble_eq_true rfl) (fun vv s61 hq => ?_) (fun ee s61 hq => ?_)
              rotate_left
              · obtain ⟨Is61, Fs61, JBYW_s61, JTKS_s61, e62, hv, hrs61, hps61⟩ := hq; cases hv
              obtain ⟨Is61, Fs61, JBYW_s61, JTKS_s61, e62, hv, hrs61, hps61⟩ := hq
              cases hv
              have Gs61 := fm_ts Gs55 Fs61 (by decide) (by decide)
              have JBYW_s61 : BYW B N s61 := BYW_fm Fs61 (by decide) JBYW_s55
              have b63 : (0 : Int) ≤ iI s61 2 ∧ iI s61 2 ≤ 200 := Is61.1 2
              have ws61_1 : iI s61 1 = iI s55 1 := fm_i Fs61 (by decide)
              have b64 : (0 : Int) ≤ iI s61 4 ∧ iI s61 4 ≤ 200 := Is61.1 4
              have b65 : ((-3) : Int) ≤ iI s61 5 ∧ iI s61 5 ≤ 255 := Is61.1 5
              have b66 : (0 : Int) ≤ iI s61 6 ∧ iI s61 6 ≤ 100000 := Is61.1 6
              have b67 : (0 : Int) ≤ iI s61 19 ∧ iI s61 19 ≤ 6 := Is61.1 19
              have b68 : (0 : Int) ≤ iI s61 16 ∧ iI s61 16 ≤ 200 := Is61.1 16
              have b69 : (0 : Int) ≤ iI s61 7 ∧ iI s61 7 ≤ 9 := Is61.1 7
              show WS k 184 [(1, .int (Int32.ofInt (-16))), (0, .ref (A 19))] [.int (Int32.ofInt e62)] (Wd A dT s61) 0 0
              refine z_if_ne X (t := 189) (show cdA 74 184 = some (.ifCond .ne 5, 3, 1, 0, 0) from rfl) (by decide) hrs61 (fun g70 => ?_) (fun g70 => ?_)
              ·
                refine z_aload_n X (x := A 19) (show cdA 74 189 = some (.aload_n 0, 1, 0, 0, 0) from rfl) (List.Mem.tail _ (List.Mem.head _)) ?_
                refine z_load_n X (x := (-16)) (show cdA 74 190 = some (.iload_n 1, 1, 0, 0, 0) from rfl) (List.Mem.head _) ?_
                refine z_callV X 19 (rm := rmN 82) (As := [.int (Int32.ofInt (-16))]) (st := []) (show cdA 74 191 = some (.invokevirtual 103, 3, 82, 0, 0) from rfl) rfl (by decide) rfl (by rw [E.1, E.2.1, E.2.2.1]; exact c7_put3 G Is61 (by first | exact ⟨by decide, by decide⟩ | omega) (by omega)) ⟨by rw [E.2.2.2]; exact (show 6 + 1 ≤ (12 + (32 + 3 * (r + 1))) from oq_65b7d3a7 r), by rw [E.2.2.2]; exact (show 8 + (2 + 11) + 100 ≤ (500 + 45 * (32 + 3 * (r + 1))) from oq_bfe32ab2 r), by rw [E.2.2.2]; exact Nat.le_refl 0, by rw [E.2.2.2]; exact Nat.le_refl 0⟩ (Nat.le_of_ble_eq_true rfl) (fun vv s71 hq => ?_) (fun ee s71 hq => ?_)
                rotate_left
                · obtain ⟨Is71, Fs71, hv, hps71⟩ := hq; cases hv
                obtain ⟨Is71, Fs71, hv, hps71⟩ := hq
                cases hv
                have Gs71 := fm_ts Gs61 Fs71 (by decide) (by decide)
                have JBYW_s71 : BYW B N s71 := BYW_fm Fs71 (by decide) JBYW_s61
                have JTKS_s71 : TKS B N s71 := TKS_fm Fs71 (by decide) JTKS_s61
                have ws71_2 : iI s71 2 = iI s61 2 := fm_i Fs71 (by decide)
                have ws71_1 : iI s71 1 = iI s61 1 := fm_i Fs71 (by decide)
                have ws71_4 : iI s71 4 = iI s61 4 := fm_i Fs71 (by decide)
                have ws71_5 : iI s71 5 = iI s61 5 := fm_i Fs71 (by decide)
                have ws71_6 : iI s71 6 = iI s61 6 := fm_i Fs71 (by decide)
                have ws71_19 : iI s71 19 = iI s61 19 := fm_i Fs71 (by decide)
                have b73 : (0 : Int) ≤ iI s71 16 ∧ iI s71 16 ≤ 200 := Is71.1 16
                have ws71_7 : iI s71 7 = iI s61 7 := fm_i Fs71 (by decide)
                have dls71 : DL s71 = DL s61 ++ [(-16)] := by rw [hps71.2]
                show WS k 194 [(1, .int (Int32.ofInt (-16))), (0, .ref (A 19))] [] (Wd A dT s71) 0 0
                refine z_const X (show cdA 74 194 = some (.iconst 1, 1, 0, 0, 0) from rfl) ?_
                have hRD : RDc B N 5 (iI s 4) (iI s 19) (DL s) s71 1 := by have h := rd_s2 (o := iI s 19) (v := s71) (x := (-16)) (by omega) hnC (by have h := hps14.2.2.2; rw [show iI s9 4 = (iI s 4) by first | exact ws9_4 | omega, show iI s9 19 = iI s 19 by first | exact ws9_19 | omega] at h; exact h) (dls9) (by omega) hrl hop (by have h := hps61.2.2.2; rw [show iI s55 4 = sk B N (iI s14 4 + 1) by omega, show iI s55 19 = iI s 19 by omega] at h; exact h) (dls55) (by omega) (by omega) (fun _ => dls71); rw [show e62 = 1 by omega] at h; exact h
                exact w_iret X.1 q hRt (nar_ret (by first | exact Or.inr (by decide) | omega)) (ax_d X (show cdA 74 195 = some (.ireturn, 1, 0, 0, 0) from rfl)) (Nat.zero_le _) (Nat.zero_le _) ⟨_, rfl, Is71, Gs71, JBYW_s71, JTKS_s71, 1, rfl, (by decide), ⟨rd_post hRD rfl (by first | exact oq_e0f7ceb0 g23 hps14.1 ws9_4 | omega) (by first | exact b7.1 | omega) (by first | exact b73.1 | omega) (fun h9 => by first | exact oq_42ab5adf ws71_19 g70 hps61.1 ws55_19 g23 hps14.1 ws9_19 | omega), by first | exact oq_e7b9ecab ws71_1 ws71_2 hps61.2.1 | omega, by first | exact oq_e7b9ecab ws71_2 ws71_4 hps61.2.2.1 | omega, hRD⟩⟩
              ·
                refine z_const X (show cdA 74 187 = some (.iconst 0, 1, 0, 0, 0) from rfl) ?_
                have hRD : RDc B N 5 (iI s 4) (iI s 19) (DL s) s61 0 := by have h := rd_s2 (o := iI s 19) (v := s61) (x := (-16)) (by omega) hnC (by have h := hps14.2.2.2; rw [show iI s9 4 = (iI s 4) by first | exact ws9_4 | omega, show iI s9 19 = iI s 19 by first | exact ws9_19 | omega] at h; exact h) (dls9) (by omega) hrl hop (by have h := hps61.2.2.2; rw [show iI s55 4 = sk B N (iI s14 4 + 1) by omega, show iI s55 19 = iI s 19 by omega] at h; exact h) (dls55) (by omega) (by omega) (fun h => absurd (show e62 = 0 by omega) h); rw [show e62 = 0 by omega] at h; exact h
                exact w_iret X.1 q hRt (nar_ret (by first | exact Or.inl (by decide) | omega)) (ax_d X (show cdA 74 188 = some (.ireturn, 1, 0, 0, 0) from rfl)) (Nat.zero_le _) (Nat.zero_le _) ⟨_, rfl, Is61, Gs61, JBYW_s61, JTKS_s61, 0, rfl, (by decide), ⟨rd_post hRD rfl (by first | exact oq_e0f7ceb0 g23 hps14.1 ws9_4 | omega) (by first | exact b7.1 | omega) (by first | exact b68.1 | omega) (fun h9 => absurd rfl h9), by first | exact hps61.2.1 | omega, by first | exact hps61.2.2.1 | omega, hRD⟩⟩
            ·
              exfalso
              omega
        ·
          refine z_bipush X (show cdA 74 116 = some (.bipush (-15), 2, 0, 0, (-15)) from rfl) ?_
          refine z_goto X (t := 157) (show cdA 74 118 = some (.goto 39, 3, 0, 0, 0) from rfl) (by decide) ?_
          refine z_store_n X (lv' := [(1, .int (Int32.ofInt (-15))), (0, .ref (A 19))]) (show cdA 74 157 = some (.istore_n 1, 1, 0, 0, 0) from rfl) (by decide) (fun _ h => h) ?_
          refine z_load_n X (x := (-15)) (show cdA 74 158 = some (.iload_n 1, 1, 0, 0, 0) from rfl) (List.Mem.head _) ?_
          refine z_bipush X (show cdA 74 159 = some (.bipush (-20), 2, 0, 0, (-20)) from rfl) ?_
          refine z_icmp_ne X (t := 173) (show cdA 74 161 = some (.if_icmp .ne 12, 3, 1, 0, 0) from rfl) (by decide) (by decide) (by decide) (fun g74 => ?_) (fun g74 => ?_)
          ·
            refine z_aload_n X (x := A 19) (show cdA 74 173 = some (.aload_n 0, 1, 0, 0, 0) from rfl) (List.Mem.tail _ (List.Mem.head _)) ?_
            refine s_getR X 19 (show cdA 74 174 = some (.getfield 31, 3, 7, 0, 0) from rfl) (by decide) rfl rfl ?_
            have hz9 := hc60.1 (by omega)
            have hrl : rlT B N (iI s14 4) := Or.inl hz9.1
            have hop : ((-15) : Int) = opC B (iI s14 4) := by unfold opC; rw [hz9.1.2]; decide
            refine z_callV X 1 (rm := rmN 129) (As := []) (st := []) (show cdA 74 177 = some (.invokevirtual 85, 3, 129, 0, 0) from rfl) rfl (by decide) rfl (by rw [E.1, E.2.1, E.2.2.1]; exact c10_step3 G Is14 JBYW_s14 (by first | exact hps14.2.1 | omega)) ⟨by rw [E.2.2.2]; exact (show 7 + 1 ≤ (12 + (32 + 3 * (r + 1))) from oq_36a63932 r), by rw [E.2.2.2]; exact (show 8 + (1 + 11) + 121 ≤ (500 + 45 * (32 + 3 * (r + 1))) from oq_ab0c04be r), by rw [E.2.2.2]; exact Nat.le_refl 0, by rw [E.2.2.2]; exact Nat.le_refl 0⟩ (Nat.le_of_ble_eq_true rfl) (fun vv s75 hq => ?_) (fun ee s75 hq => ?_)
            rotate_left
            · obtain ⟨Is75, Fs75, JBYW_s75, JTKS_s75, hv, hps75⟩ := hq; cases hv
            obtain ⟨Is75, Fs75, JBYW_s75, JTKS_s75, hv, hps75⟩ := hq
            cases hv
            have Gs75 := fm_ts Gs14 Fs75 (by decide) (by decide)
            have JBYW_s75 : BYW B N s75 := BYW_fm Fs75 (by decide) JBYW_s14
            have b77 : (0 : Int) ≤ iI s75 2 ∧ iI s75 2 ≤ 200 := Is75.1 2
            have ws75_1 : iI s75 1 = iI s14 1 := fm_i Fs75 (by decide)
            have b78 : (0 : Int) ≤ iI s75 4 ∧ iI s75 4 ≤ 200 := Is75.1 4
            have b79 : ((-3) : Int) ≤ iI s75 5 ∧ iI s75 5 ≤ 255 := Is75.1 5
            have b80 : (0 : Int) ≤ iI s75 6 ∧ iI s75 6 ≤ 100000 := Is75.1 6
            have ws75_19 : iI s75 19 = iI s14 19 := fm_i Fs75 (by decide)
            have ws75_16 : iI s75 16 = iI s14 16 := fm_i Fs75 (by decide)
            have ws75_7 : iI s75 7 = iI s14 7 := fm_i Fs75 (by decide)
            have dls75 : DL s75 = DL s14 := (DL_fm Fs75 (by decide) (by decide)).trans rfl
            show WS k 180 [(1, .int (Int32.ofInt (-15))), (0, .ref (A 19))] [] (Wd A dT s75) 0 0
            have hs9 : iI s75 4 = sk B N (iI s14 4 + 1) := by rw [hps75.2.2.1, show iI s14 2 = iI s14 4 + 1 by omega]
            refine z_aload_n X (x := A 19) (show cdA 74 180 = some (.aload_n 0, 1, 0, 0, 0) from rfl) (List.Mem.tail _ (List.Mem.head _)) ?_
            refine z_callV X 19 (rm := (rkR (4 * (7) + 3))) (As := []) (st := []) (show cdA 74 181 = some (.invokevirtual 88, 3, 75, 0, 0) from rfl) rfl (by decide) rfl (by rw [E.1, E.2.1, E.2.2.1]; exact (c7_sumr3 G (B := B) (N := N) SF GT 7).2.2.2 Is75 JBYW_s75 JTKS_s75 (by first | exact hps75.1 | omega) (by first | exact hps75.2.1 | omega) (by first | exact oq_ba167e5f ws75_19 b20.1 | omega) (by first | exact oq_0089538a ws75_16 hps75.2.2.2 g23 hps14.2.2.1 hps14.1 ws9_16 ws9_4 p3 | omega)) ⟨by rw [E.2.2.2]; exact (show (12 + (4 * (7) + 3)) + 1 ≤ (12 + (32 + 3 * (r + 1))) from oq_e0a8f0a0 r), by rw [E.2.2.2]; exact (show 8 + (3 + 11) + (500 + 45 * (4 * (7) + 3)) ≤ (500 + 45 * (32 + 3 * (r + 1))) from oq_eacdd764 r), by rw [E.2.2.2]; exact Nat.le_refl 0, by rw [E.2.2.2]; exact Nat.le_refl 0⟩ (Nat.le_of_ble_eq_true rfl) (fun vv s81 hq => ?_) (fun ee s81 hq => ?_)
            rotate_left
            · obtain ⟨Is81, Fs81, JBYW_s81, JTKS_s81, e82, hv, hrs81, hps81⟩ := hq; cases hv
            obtain ⟨Is81, Fs81, JBYW_s81, JTKS_s81, e82, hv, hrs81, hps81⟩ := hq
            cases hv
            have Gs81 := fm_ts Gs75 Fs81 (by decide) (by decide)
            have JBYW_s81 : BYW B N s81 := BYW_fm Fs81 (by decide) JBYW_s75
            have b83 : (0 : Int) ≤ iI s81 2 ∧ iI s81 2 ≤ 200 := Is81.1 2
            have ws81_1 : iI s81 1 = iI s75 1 := fm_i Fs81 (by decide)
            have b84 : (0 : Int) ≤ iI s81 4 ∧ iI s81 4 ≤ 200 := Is81.1 4
            have b85 : ((-3) : Int) ≤ iI s81 5 ∧ iI s81 5 ≤ 255 := Is81.1 5
            have b86 : (0 : Int) ≤ iI s81 6 ∧ iI s81 6 ≤ 100000 := Is81.1 6
            have b87 : (0 : Int) ≤ iI s81 19 ∧ iI s81 19 ≤ 6 := Is81.1 19
            have b88 : (0 : Int) ≤ iI s81 16 ∧ iI s81 16 ≤ 200 := Is81.1 16
            have b89 : (0 : Int) ≤ iI s81 7 ∧ iI s81 7 ≤ 9 := Is81.1 7
            show WS k 184 [(1, .int (Int32.ofInt (-15))), (0, .ref (A 19))] [.int (Int32.ofInt e82)] (Wd A dT s81) 0 0
            refine z_if_ne X (t := 189) (show cdA 74 184 = some (.ifCond .ne 5, 3, 1, 0, 0) from rfl) (by decide) hrs81 (fun g90 => ?_) (fun g90 => ?_)
            ·
              refine z_aload_n X (x := A 19) (show cdA 74 189 = some (.aload_n 0, 1, 0, 0, 0) from rfl) (List.Mem.tail _ (List.Mem.head _)) ?_
              refine z_load_n X (x := (-15)) (show cdA 74 190 = some (.iload_n 1, 1, 0, 0, 0) from rfl) (List.Mem.head _) ?_
              refine z_callV X 19 (rm := rmN 82) (As := [.int (Int32.ofInt (-15))]) (st := []) (show cdA 74 191 = some (.invokevirtual 103, 3, 82, 0, 0) from rfl) rfl (by decide) rfl (by rw [E.1, E.2.1, E.2.2.1]; exact c7_put3 G Is81 (by first | exact ⟨by decide, by decide⟩ | omega) (by omega)) ⟨by rw [E.2.2.2]; exact (show 6 + 1 ≤ (12 + (32 + 3 * (r + 1))) from oq_65b7d3a7 r), by rw [E.2.2.2]; exact (show 8 + (2 + 11) + 100 ≤ (500 + 45 * (32 + 3 * (r + 1))) from oq_bfe32ab2 r), by rw [E.2.2.2]; exact Nat.le_refl 0, by rw [E.2.2.2]; exact Nat.le_refl 0⟩ (Nat.le_of_ble_eq_true rfl) (fun vv s91 hq => ?_) (fun ee s91 hq => ?_)
              rotate_left
              · obtain ⟨Is91, Fs91, hv, hps91⟩ := hq; cases hv
              obtain ⟨Is91, Fs91, hv, hps91⟩ := hq
              cases hv
              have Gs91 := fm_ts Gs81 Fs91 (by decide) (by decide)
              have JBYW_s91 : BYW B N s91 := BYW_fm Fs91 (by decide) JBYW_s81
              have JTKS_s91 : TKS B N s91 := TKS_fm Fs91 (by decide) JTKS_s81
              have ws91_2 : iI s91 2 = iI s81 2 := fm_i Fs91 (by decide)
              have ws91_1 : iI s91 1 = iI s81 1 := fm_i Fs91 (by decide)
              have ws91_4 : iI s91 4 = iI s81 4 := fm_i Fs91 (by decide)
              have ws91_5 : iI s91 5 = iI s81 5 := fm_i Fs91 (by decide)
              have ws91_6 : iI s91 6 = iI s81 6 := fm_i Fs91 (by decide)
              have ws91_19 : iI s91 19 = iI s81 19 := fm_i Fs91 (by decide)
              have b93 : (0 : Int) ≤ iI s91 16 ∧ iI s91 16 ≤ 200 := Is91.1 16
              have ws91_7 : iI s91 7 = iI s81 7 := fm_i Fs91 (by decide)
              have dls91 : DL s91 = DL s81 ++ [(-15)] := by rw [hps91.2]
              show WS k 194 [(1, .int (Int32.ofInt (-15))), (0, .ref (A 19))] [] (Wd A dT s91) 0 0
              refine z_const X (show cdA 74 194 = some (.iconst 1, 1, 0, 0, 0) from rfl) ?_
              have hRD : RDc B N 5 (iI s 4) (iI s 19) (DL s) s91 1 := by have h := rd_s2 (o := iI s 19) (v := s91) (x := (-15)) (by omega) hnC (by have h := hps14.2.2.2; rw [show iI s9 4 = (iI s 4) by first | exact ws9_4 | omega, show iI s9 19 = iI s 19 by first | exact ws9_19 | omega] at h; exact h) (dls9) (by omega) hrl hop (by have h := hps81.2.2.2; rw [show iI s75 4 = sk B N (iI s14 4 + 1) by omega, show iI s75 19 = iI s 19 by omega] at h; exact h) (dls75) (by omega) (by omega) (fun _ => dls91); rw [show e82 = 1 by omega] at h; exact h
              exact w_iret X.1 q hRt (nar_ret (by first | exact Or.inr (by decide) | omega)) (ax_d X (show cdA 74 195 = some (.ireturn, 1, 0, 0, 0) from rfl)) (Nat.zero_le _) (Nat.zero_le _) ⟨_, rfl, Is91, Gs91, JBYW_s91, JTKS_s91, 1, rfl, (by decide), ⟨rd_post hRD rfl (by first | exact oq_e0f7ceb0 g23 hps14.1 ws9_4 | omega) (by first | exact b7.1 | omega) (by first | exact b93.1 | omega) (fun h9 => by first | exact oq_42ab5adf ws91_19 g90 hps81.1 ws75_19 g23 hps14.1 ws9_19 | omega), by first | exact oq_e7b9ecab ws91_1 ws91_2 hps81.2.1 | omega, by first | exact oq_e7b9ecab ws91_2 ws91_4 hps81.2.2.1 | omega, hRD⟩⟩
            ·
              refine z_const X (show cdA 74 187 = some (.iconst 0, 1, 0, 0, 0) from rfl) ?_
              have hRD : RDc B N 5 (iI s 4) (iI s 19) (DL s) s81 0 := by have h := rd_s2 (o := iI s 19) (v := s81) (x := (-15)) (by omega) hnC (by have h := hps14.2.2.2; rw [show iI s9 4 = (iI s 4) by first | exact ws9_4 | omega, show iI s9 19 = iI s 19 by first | exact ws9_19 | omega] at h; exact h) (dls9) (by omega) hrl hop (by have h := hps81.2.2.2; rw [show iI s75 4 = sk B N (iI s14 4 + 1) by omega, show iI s75 19 = iI s 19 by omega] at h; exact h) (dls75) (by omega) (by omega) (fun h => absurd (show e82 = 0 by omega) h); rw [show e82 = 0 by omega] at h; exact h
              exact w_iret X.1 q hRt (nar_ret (by first | exact Or.inl (by decide) | omega)) (ax_d X (show cdA 74 188 = some (.ireturn, 1, 0, 0, 0) from rfl)) (Nat.zero_le _) (Nat.zero_le _) ⟨_, rfl, Is81, Gs81, JBYW_s81, JTKS_s81, 0, rfl, (by decide), ⟨rd_post hRD rfl (by first | exact oq_e0f7ceb0 g23 hps14.1 ws9_4 | omega) (by first | exact b7.1 | omega) (by first | exact b88.1 | omega) (fun h9 => absurd rfl h9), by first | exact hps81.2.1 | omega, by first | exact hps81.2.2.1 | omega, hRD⟩⟩
          ·
            exfalso
            omega
      ·
        refine z_const X (show cdA 74 102 = some (.iconst 0, 1, 0, 0, 0) from rfl) ?_
        have hRD : RDc B N 5 (iI s 4) (iI s 19) (DL s) s14 0 := rd_bad (by have h := hps14.2.2.2; rw [show iI s9 4 = (iI s 4) by first | exact ws9_4 | omega, show iI s9 19 = iI s 19 by first | exact ws9_19 | omega] at h; exact h) (by omega) (by omega) (fun r h z => pt_sb (by omega) hnC h z)
        exact w_iret X.1 q hRt (nar_ret (by first | exact Or.inl (by decide) | omega)) (ax_d X (show cdA 74 103 = some (.ireturn, 1, 0, 0, 0) from rfl)) (Nat.zero_le _) (Nat.zero_le _) ⟨_, rfl, Is14, Gs14, JBYW_s14, JTKS_s14, 0, rfl, (by decide), ⟨rd_post hRD rfl (by omega) (by first | exact b7.1 | omega) (by first | exact b21.1 | omega) (fun h9 => absurd rfl h9), by first | exact hps14.2.1 | omega, by first | exact hps14.2.2.1 | omega, hRD⟩⟩
    ·
      have hC := (hc91.1 (by omega)).1
      have hA := (hc91.1 (by omega)).2
      refine z_aload_n X (x := A 19) (show cdA 74 58 = some (.aload_n 0, 1, 0, 0, 0) from rfl) (List.Mem.head _) ?_
      refine z_callV X 19 (rm := rmN 80) (As := []) (st := []) (show cdA 74 59 = some (.invokevirtual 113, 3, 80, 0, 0) from rfl) rfl (by decide) rfl (by rw [E.1, E.2.1, E.2.2.1]; exact c7_enter3 G Is9 JBYW_s9 JTKS_s9 (by first | exact oq_e7b9ecab ws9_1 ws9_2 p0 | omega) (by first | exact oq_e7b9ecab ws9_2 ws9_4 p1 | omega)) ⟨by rw [E.2.2.2]; exact (show 8 + 1 ≤ (12 + (32 + 3 * (r + 1))) from oq_de5d5424 r), by rw [E.2.2.2]; exact (show 8 + (1 + 11) + 143 ≤ (500 + 45 * (32 + 3 * (r + 1))) from oq_8bb5ae4a r), by rw [E.2.2.2]; exact Nat.le_refl 0, by rw [E.2.2.2]; exact Nat.le_refl 0⟩ (Nat.le_of_ble_eq_true rfl) (fun vv s94 hq => ?_) (fun ee s94 hq => ?_)
      rotate_left
      · obtain ⟨Is94, Fs94, JBYW_s94, JTKS_s94, e95, hv, hrs94, hps94⟩ := hq; cases hv
      obtain ⟨Is94, Fs94, JBYW_s94, JTKS_s94, e95, hv, hrs94, hps94⟩ := hq
      cases hv
      have Gs94 := fm_ts Gs9 Fs94 (by decide) (by decide)
      have JBYW_s94 : BYW B N s94 := BYW_fm Fs94 (by decide) JBYW_s9
      have b96 : (0 : Int) ≤ iI s94 2 ∧ iI s94 2 ≤ 200 := Is94.1 2
      have ws94_1 : iI s94 1 = iI s9 1 := fm_i Fs94 (by decide)
      have b97 : (0 : Int) ≤ iI s94 4 ∧ iI s94 4 ≤ 200 := Is94.1 4
      have b98 : ((-3) : Int) ≤ iI s94 5 ∧ iI s94 5 ≤ 255 := Is94.1 5
      have b99 : (0 : Int) ≤ iI s94 6 ∧ iI s94 6 ≤ 100000 := Is94.1 6
      have b100 : (0 : Int) ≤ iI s94 19 ∧ iI s94 19 ≤ 6 := Is94.1 19
      have ws94_16 : iI s94 16 = iI s9 16 := fm_i Fs94 (by decide)
      have b101 : (0 : Int) ≤ iI s94 7 ∧ iI s94 7 ≤ 9 := Is94.1 7
      have dls94 : DL s94 = DL s := (DL_fm Fs94 (by decide) (by decide)).trans dls9
      show WS k 62 [(0, .ref (A 19))] [.int (Int32.ofInt e95)] (Wd A dT s94) 0 0
      refine z_if_eq X (t := 81) (show cdA 74 62 = some (.ifCond .eq 19, 3, 0, 0, 0) from rfl) (by decide) hrs94 (fun g102 => ?_) (fun g102 => ?_)
      ·
        refine z_const X (show cdA 74 81 = some (.iconst 0, 1, 0, 0, 0) from rfl) ?_
        have hRD : RDc B N 5 (iI s 4) (iI s 19) (DL s) s94 0 := rd_no (pt_b3 (by omega) hC (by omega)) (by decide) (by omega)
        exact w_iret X.1 q hRt (nar_ret (by first | exact Or.inl (by decide) | omega)) (ax_d X (show cdA 74 82 = some (.ireturn, 1, 0, 0, 0) from rfl)) (Nat.zero_le _) (Nat.zero_le _) ⟨_, rfl, Is94, Gs94, JBYW_s94, JTKS_s94, 0, rfl, (by decide), ⟨rd_post hRD rfl (by omega) (by first | exact b7.1 | omega) (by first | exact oq_0f93fca7 ws94_16 ws9_16 b7.1 | omega) (fun h9 => absurd rfl h9), by first | exact hps94.2.1 | omega, by first | exact hps94.2.2 | omega, hRD⟩⟩
      ·
        have hs2 : iI s94 4 = sk B N ((iI s 4) + 1) := by exact Or.elim hps94.1 (fun q => by omega) (fun q => by rw [q.2.2.2.1, show iI s9 2 = (iI s 4) + 1 by omega])
        refine z_aload_n X (x := A 19) (show cdA 74 65 = some (.aload_n 0, 1, 0, 0, 0) from rfl) (List.Mem.head _) ?_
        refine z_callV X 19 (rm := (rkR (32 + 3 * (r) + 2))) (As := []) (st := []) (show cdA 74 66 = some (.invokevirtual 92, 3, 72, 0, 0) from rfl) rfl (by decide) rfl (by rw [E.1, E.2.1, E.2.2.1]; exact hE Is94 JBYW_s94 JTKS_s94 (by first | exact hps94.2.1 | omega) (by first | exact hps94.2.2 | omega) (by first | exact oq_72a45466 g102 hps94.1 ws9_19 p2 | omega) (by first | exact oq_024764ca g102 ws94_16 hps94.1 ws9_16 ws9_2 p3 p1 | omega)) ⟨by rw [E.2.2.2]; exact (show (12 + (32 + 3 * (r) + 2)) + 1 ≤ (12 + (32 + 3 * (r + 1))) from oq_45eb8909 r), by rw [E.2.2.2]; exact (show 8 + (2 + 11) + (500 + 45 * (32 + 3 * (r) + 2)) ≤ (500 + 45 * (32 + 3 * (r + 1))) from oq_a5f4ad9d r), by rw [E.2.2.2]; exact Nat.le_refl 0, by rw [E.2.2.2]; exact Nat.le_refl 0⟩ (Nat.le_of_ble_eq_true rfl) (fun vv s103 hq => ?_) (fun ee s103 hq => ?_)
        rotate_left
        · obtain ⟨Is103, Fs103, JBYW_s103, JTKS_s103, e104, hv, hrs103, hps103⟩ := hq; cases hv
        obtain ⟨Is103, Fs103, JBYW_s103, JTKS_s103, e104, hv, hrs103, hps103⟩ := hq
        cases hv
        have Gs103 := fm_ts Gs94 Fs103 (by decide) (by decide)
        have JBYW_s103 : BYW B N s103 := BYW_fm Fs103 (by decide) JBYW_s94
        have b105 : (0 : Int) ≤ iI s103 2 ∧ iI s103 2 ≤ 200 := Is103.1 2
        have ws103_1 : iI s103 1 = iI s94 1 := fm_i Fs103 (by decide)
        have b106 : (0 : Int) ≤ iI s103 4 ∧ iI s103 4 ≤ 200 := Is103.1 4
        have b107 : ((-3) : Int) ≤ iI s103 5 ∧ iI s103 5 ≤ 255 := Is103.1 5
        have b108 : (0 : Int) ≤ iI s103 6 ∧ iI s103 6 ≤ 100000 := Is103.1 6
        have b109 : (0 : Int) ≤ iI s103 19 ∧ iI s103 19 ≤ 6 := Is103.1 19
        have b110 : (0 : Int) ≤ iI s103 16 ∧ iI s103 16 ≤ 200 := Is103.1 16
        have b111 : (0 : Int) ≤ iI s103 7 ∧ iI s103 7 ≤ 9 := Is103.1 7
        show WS k 69 [(0, .ref (A 19))] [.int (Int32.ofInt e104)] (Wd A dT s103) 0 0
        refine z_if_eq X (t := 81) (show cdA 74 69 = some (.ifCond .eq 12, 3, 0, 0, 0) from rfl) (by decide) hrs103 (fun g112 => ?_) (fun g112 => ?_)
        ·
          refine z_const X (show cdA 74 81 = some (.iconst 0, 1, 0, 0, 0) from rfl) ?_
          have hRD : RDc B N 5 (iI s 4) (iI s 19) (DL s) s103 0 := rd_bad (by have h := hps103.2.2.2; rw [show iI s94 4 = sk B N ((iI s 4) + 1) by first | exact hs2 | omega, show iI s94 19 = iI s 19 + 1 by first | exact oq_60a36124 g102 hps94.1 ws9_19 | omega] at h; exact h) (by omega) (by omega) (fun r h z => pt_bb (by omega) hC (by omega) h z)
          exact w_iret X.1 q hRt (nar_ret (by first | exact Or.inl (by decide) | omega)) (ax_d X (show cdA 74 82 = some (.ireturn, 1, 0, 0, 0) from rfl)) (Nat.zero_le _) (Nat.zero_le _) ⟨_, rfl, Is103, Gs103, JBYW_s103, JTKS_s103, 0, rfl, (by decide), ⟨rd_post hRD rfl (by omega) (by first | exact b7.1 | omega) (by first | exact b110.1 | omega) (fun h9 => absurd rfl h9), by first | exact hps103.2.1 | omega, by first | exact hps103.2.2.1 | omega, hRD⟩⟩
        ·
          refine z_aload_n X (x := A 19) (show cdA 74 72 = some (.aload_n 0, 1, 0, 0, 0) from rfl) (List.Mem.head _) ?_
          refine z_bipush X (show cdA 74 73 = some (.bipush 93, 2, 0, 0, 93) from rfl) ?_
          refine z_callV X 19 (rm := rmN 81) (As := [.int (Int32.ofInt 93)]) (st := []) (show cdA 74 75 = some (.invokevirtual 95, 3, 81, 0, 0) from rfl) rfl (by decide) rfl (by rw [E.1, E.2.1, E.2.2.1]; exact c7_pass3 G Is103 JBYW_s103 JTKS_s103 (by first | exact ⟨by decide, by decide⟩ | omega) (by first | exact Or.inr (by decide) | omega) (by first | exact Or.inl (by decide) | omega) (by first | exact hps103.2.1 | omega) (by first | exact hps103.2.2.1 | omega)) ⟨by rw [E.2.2.2]; exact (show 8 + 1 ≤ (12 + (32 + 3 * (r + 1))) from oq_de5d5424 r), by rw [E.2.2.2]; exact (show 8 + (2 + 11) + 143 ≤ (500 + 45 * (32 + 3 * (r + 1))) from oq_0961b7e0 r), by rw [E.2.2.2]; exact Nat.le_refl 0, by rw [E.2.2.2]; exact Nat.le_refl 0⟩ (Nat.le_of_ble_eq_true rfl) (fun vv s113 hq => ?_) (fun ee s113 hq => ?_)
          rotate_left
          · obtain ⟨Is113, Fs113, JBYW_s113, JTKS_s113, e114, hv, hrs113, hps113⟩ := hq; cases hv
          obtain ⟨Is113, Fs113, JBYW_s113, JTKS_s113, e114, hv, hrs113, hps113⟩ := hq
          cases hv
          have Gs113 := fm_ts Gs103 Fs113 (by decide) (by decide)
          have JBYW_s113 : BYW B N s113 := BYW_fm Fs113 (by decide) JBYW_s103
          have b115 : (0 : Int) ≤ iI s113 2 ∧ iI s113 2 ≤ 200 := Is113.1 2
          have ws113_1 : iI s113 1 = iI s103 1 := fm_i Fs113 (by decide)
          have b116 : (0 : Int) ≤ iI s113 4 ∧ iI s113 4 ≤ 200 := Is113.1 4
          have b117 : ((-3) : Int) ≤ iI s113 5 ∧ iI s113 5 ≤ 255 := Is113.1 5
          have b118 : (0 : Int) ≤ iI s113 6 ∧ iI s113 6 ≤ 100000 := Is113.1 6
          have ws113_19 : iI s113 19 = iI s103 19 := fm_i Fs113 (by decide)
          have ws113_16 : iI s113 16 = iI s103 16 := fm_i Fs113 (by decide)
          have b119 : (0 : Int) ≤ iI s113 7 ∧ iI s113 7 ≤ 9 := Is113.1 7
          have dls113 : DL s113 = DL s103 := (DL_fm Fs113 (by decide) (by decide)).trans rfl
          show WS k 78 [(0, .ref (A 19))] [.int (Int32.ofInt e114)] (Wd A dT s113) 0 0
          refine z_if_ne X (t := 83) (show cdA 74 78 = some (.ifCond .ne 5, 3, 1, 0, 0) from rfl) (by decide) hrs113 (fun g120 => ?_) (fun g120 => ?_)
          ·
            refine z_aload_n X (x := A 19) (show cdA 74 83 = some (.aload_n 0, 1, 0, 0, 0) from rfl) (List.Mem.head _) ?_
            refine w_dup X.1 (ax_d X (show cdA 74 84 = some (.dup, 1, 0, 0, 0) from rfl)) rfl ?_
            refine z_getI X 19 (show cdA 74 85 = some (.getfield 44, 3, 7, 12, 0) from rfl) (by decide) rfl rfl ?_
            have b121 : (0 : Int) ≤ iI s113 19 ∧ iI s113 19 ≤ 6 := Is113.1 19
            refine z_const X (show cdA 74 88 = some (.iconst 1, 1, 0, 0, 0) from rfl) ?_
            refine z_sub X (show cdA 74 89 = some (.isub, 1, 0, 0, 0) from rfl) ?_
            refine s_putI X 19 (show cdA 74 90 = some (.putfield 44, 3, 7, 12, 0) from rfl) (by decide) rfl rfl (by decide) rfl rfl rfl ?_
            obtain ⟨s122, hs122⟩ : ∃ x0, x0 = uI s113 19 (Int32.ofInt ((iI s113 19) - 1)) := ⟨_, rfl⟩
            rw [← hs122]
            have Is122 : Bd s122 := by rw [hs122]; exact bd_I Is113 (show (0 : Int) ≤ ((iI s113 19) - 1) ∧ ((iI s113 19) - 1) ≤ 6 by first | exact ⟨oq_a873a8a8 ws113_19 g112 hps103.1 g102 hps94.1 ws9_19 b6.1, oq_a9606c0d b121.2⟩ | omega) ⟨by first | exact oq_c1e961c7 b121.1 | omega, by first | exact oq_b383b26c b121.2 | omega⟩
            have Fs122 := fm_I (x := Int32.ofInt ((iI s113 19) - 1)) Gs113 (show 19 ∈ _ by decide)
            rw [← hs122] at Fs122
            have vs122 : iI s122 19 = ((iI s113 19) - 1) := by rw [hs122]; exact iI_u ⟨by first | exact oq_c1e961c7 b121.1 | omega, by first | exact oq_b383b26c b121.2 | omega⟩
            have ws122_2 : iI s122 2 = iI s113 2 := by rw [hs122]; rfl
            have ws122_1 : iI s122 1 = iI s113 1 := by rw [hs122]; rfl
            have ws122_4 : iI s122 4 = iI s113 4 := by rw [hs122]; rfl
            have ws122_5 : iI s122 5 = iI s113 5 := by rw [hs122]; rfl
            have ws122_6 : iI s122 6 = iI s113 6 := by rw [hs122]; rfl
            have ws122_16 : iI s122 16 = iI s113 16 := by rw [hs122]; rfl
            have ws122_7 : iI s122 7 = iI s113 7 := by rw [hs122]; rfl
            have dls122 : DL s122 = DL s103 := by rw [hs122]; exact dls113
            have fs122 : Fm [19] [] s113 s122 := by rw [hs122]; exact fm_I (fm_rf _ _ _) (show 19 ∈ _ by decide)
            have JBYW_s122 : BYW B N s122 := BYW_fm fs122 (by decide) JBYW_s113
            have JTKS_s122 : TKS B N s122 := TKS_fm fs122 (by decide) JTKS_s113
            refine z_const X (show cdA 74 93 = some (.iconst 1, 1, 0, 0, 0) from rfl) ?_
            have hRD : RDc B N 5 (iI s 4) (iI s 19) (DL s) s122 1 := by have h := rd_brk (o := iI s 19) (v := s122) (by omega) hC (by omega) (by have h := hps103.2.2.2; rw [show iI s94 4 = sk B N ((iI s 4) + 1) by first | exact hs2 | omega, show iI s94 19 = iI s 19 + 1 by first | exact oq_60a36124 g102 hps94.1 ws9_19 | omega] at h; exact h) (dls94) (by omega) hps113.2.2.2 (by rw [dls122]) (by omega) (by omega); rw [show e114 = 1 by omega] at h; exact h
            exact w_iret X.1 q hRt (nar_ret (by first | exact Or.inr (by decide) | omega)) (ax_d X (show cdA 74 94 = some (.ireturn, 1, 0, 0, 0) from rfl)) (Nat.zero_le _) (Nat.zero_le _) ⟨_, rfl, Is122, Fs122, JBYW_s122, JTKS_s122, 1, rfl, (by decide), ⟨rd_post hRD rfl (by first | exact oq_4c63dc53 g112 hps103.1 g102 hps94.1 ws9_2 p1 | omega) (by first | exact b7.1 | omega) (by first | exact oq_0f93fca7 ws122_16 ws113_16 b110.1 | omega) (fun h9 => by first | exact oq_10a2b847 vs122 ws113_19 g112 hps103.1 g102 hps94.1 ws9_19 | omega), by first | exact oq_e7b9ecab ws122_1 ws122_2 hps113.2.1 | omega, by first | exact oq_e7b9ecab ws122_2 ws122_4 hps113.2.2.1 | omega, hRD⟩⟩
          ·
            refine z_const X (show cdA 74 81 = some (.iconst 0, 1, 0, 0, 0) from rfl) ?_
            have hRD : RDc B N 5 (iI s 4) (iI s 19) (DL s) s113 0 := by have h := rd_brk (o := iI s 19) (v := s113) (by omega) hC (by omega) (by have h := hps103.2.2.2; rw [show iI s94 4 = sk B N ((iI s 4) + 1) by first | exact hs2 | omega, show iI s94 19 = iI s 19 + 1 by first | exact oq_60a36124 g102 hps94.1 ws9_19 | omega] at h; exact h) (dls94) (by omega) hps113.2.2.2 (by rw [dls113]) (by omega) (by omega); rw [show e114 = 0 by omega] at h; exact h
            exact w_iret X.1 q hRt (nar_ret (by first | exact Or.inl (by decide) | omega)) (ax_d X (show cdA 74 82 = some (.ireturn, 1, 0, 0, 0) from rfl)) (Nat.zero_le _) (Nat.zero_le _) ⟨_, rfl, Is113, Gs113, JBYW_s113, JTKS_s113, 0, rfl, (by decide), ⟨rd_post hRD rfl (by first | exact oq_4c63dc53 g112 hps103.1 g102 hps94.1 ws9_2 p1 | omega) (by first | exact b7.1 | omega) (by first | exact oq_e4757433 ws113_16 b110.1 | omega) (fun h9 => absurd rfl h9), by first | exact hps113.2.1 | omega, by first | exact hps113.2.2.1 | omega, hRD⟩⟩
  ·
    have hk3 : iI s 5 = -3 := Classical.byContradiction (fun q => by have := hwd.2 q; omega)
    have ha3 := (hwd.1 hk3).1
    refine z_aload_n X (x := A 19) (show cdA 74 12 = some (.aload_n 0, 1, 0, 0, 0) from rfl) (List.Mem.head _) ?_
    refine z_callV X 19 (rm := rmN 80) (As := []) (st := []) (show cdA 74 13 = some (.invokevirtual 113, 3, 80, 0, 0) from rfl) rfl (by decide) rfl (by rw [E.1, E.2.1, E.2.2.1]; exact c7_enter3 G Is9 JBYW_s9 JTKS_s9 (by first | exact oq_e7b9ecab ws9_1 ws9_2 p0 | omega) (by first | exact oq_e7b9ecab ws9_2 ws9_4 p1 | omega)) ⟨by rw [E.2.2.2]; exact (show 8 + 1 ≤ (12 + (32 + 3 * (r + 1))) from oq_de5d5424 r), by rw [E.2.2.2]; exact (show 8 + (1 + 11) + 143 ≤ (500 + 45 * (32 + 3 * (r + 1))) from oq_8bb5ae4a r), by rw [E.2.2.2]; exact Nat.le_refl 0, by rw [E.2.2.2]; exact Nat.le_refl 0⟩ (Nat.le_of_ble_eq_true rfl) (fun vv s123 hq => ?_) (fun ee s123 hq => ?_)
    rotate_left
    · obtain ⟨Is123, Fs123, JBYW_s123, JTKS_s123, e124, hv, hrs123, hps123⟩ := hq; cases hv
    obtain ⟨Is123, Fs123, JBYW_s123, JTKS_s123, e124, hv, hrs123, hps123⟩ := hq
    cases hv
    have Gs123 := fm_ts Gs9 Fs123 (by decide) (by decide)
    have JBYW_s123 : BYW B N s123 := BYW_fm Fs123 (by decide) JBYW_s9
    have b125 : (0 : Int) ≤ iI s123 2 ∧ iI s123 2 ≤ 200 := Is123.1 2
    have ws123_1 : iI s123 1 = iI s9 1 := fm_i Fs123 (by decide)
    have b126 : (0 : Int) ≤ iI s123 4 ∧ iI s123 4 ≤ 200 := Is123.1 4
    have b127 : ((-3) : Int) ≤ iI s123 5 ∧ iI s123 5 ≤ 255 := Is123.1 5
    have b128 : (0 : Int) ≤ iI s123 6 ∧ iI s123 6 ≤ 100000 := Is123.1 6
    have b129 : (0 : Int) ≤ iI s123 19 ∧ iI s123 19 ≤ 6 := Is123.1 19
    have ws123_16 : iI s123 16 = iI s9 16 := fm_i Fs123 (by decide)
    have b130 : (0 : Int) ≤ iI s123 7 ∧ iI s123 7 ≤ 9 := Is123.1 7
    have dls123 : DL s123 = DL s := (DL_fm Fs123 (by decide) (by decide)).trans dls9
    show WS k 16 [(0, .ref (A 19))] [.int (Int32.ofInt e124)] (Wd A dT s123) 0 0
    refine z_if_eq X (t := 26) (show cdA 74 16 = some (.ifCond .eq 10, 3, 0, 0, 0) from rfl) (by decide) hrs123 (fun g131 => ?_) (fun g131 => ?_)
    ·
      refine z_const X (show cdA 74 26 = some (.iconst 0, 1, 0, 0, 0) from rfl) ?_
      have hRD : RDc B N 5 (iI s 4) (iI s 19) (DL s) s123 0 := rd_no (pt_n3 (by omega) (by omega)) (by decide) (by omega)
      exact w_iret X.1 q hRt (nar_ret (by first | exact Or.inl (by decide) | omega)) (ax_d X (show cdA 74 27 = some (.ireturn, 1, 0, 0, 0) from rfl)) (Nat.zero_le _) (Nat.zero_le _) ⟨_, rfl, Is123, Gs123, JBYW_s123, JTKS_s123, 0, rfl, (by decide), ⟨rd_post hRD rfl (by omega) (by first | exact b7.1 | omega) (by first | exact oq_0f93fca7 ws123_16 ws9_16 b7.1 | omega) (fun h9 => absurd rfl h9), by first | exact hps123.2.1 | omega, by first | exact hps123.2.2 | omega, hRD⟩⟩
    ·
      have hs2 : iI s123 4 = sk B N (wdE B N (iI s 4)) := by exact Or.elim hps123.1 (fun q => by omega) (fun q => by rw [q.2.2.2.1, show iI s9 2 = wdE B N (iI s 4) by omega])
      refine z_aload_n X (x := A 19) (show cdA 74 19 = some (.aload_n 0, 1, 0, 0, 0) from rfl) (List.Mem.head _) ?_
      refine z_callV X 19 (rm := (rkR (32 + 3 * (r)))) (As := []) (st := []) (show cdA 74 20 = some (.invokevirtual 106, 3, 74, 0, 0) from rfl) rfl (by decide) rfl (by rw [E.1, E.2.1, E.2.2.1]; exact hT Is123 JBYW_s123 JTKS_s123 (by first | exact hps123.2.1 | omega) (by first | exact hps123.2.2 | omega) (by first | exact oq_72a45466 g131 hps123.1 ws9_19 p2 | omega) (by first | exact oq_024764ca g131 ws123_16 hps123.1 ws9_16 ws9_2 p3 p1 | omega)) ⟨by rw [E.2.2.2]; exact (show (12 + (32 + 3 * (r))) + 1 ≤ (12 + (32 + 3 * (r + 1))) from oq_a51edb0d r), by rw [E.2.2.2]; exact (show 8 + (2 + 11) + (500 + 45 * (32 + 3 * (r))) ≤ (500 + 45 * (32 + 3 * (r + 1))) from oq_75be701f r), by rw [E.2.2.2]; exact Nat.le_refl 0, by rw [E.2.2.2]; exact Nat.le_refl 0⟩ (Nat.le_of_ble_eq_true rfl) (fun vv s132 hq => ?_) (fun ee s132 hq => ?_)
      rotate_left
      · obtain ⟨Is132, Fs132, JBYW_s132, JTKS_s132, e133, hv, hrs132, hps132⟩ := hq; cases hv
      obtain ⟨Is132, Fs132, JBYW_s132, JTKS_s132, e133, hv, hrs132, hps132⟩ := hq
      cases hv
      have Gs132 := fm_ts Gs123 Fs132 (by decide) (by decide)
      have JBYW_s132 : BYW B N s132 := BYW_fm Fs132 (by decide) JBYW_s123
      have b134 : (0 : Int) ≤ iI s132 2 ∧ iI s132 2 ≤ 200 := Is132.1 2
      have ws132_1 : iI s132 1 = iI s123 1 := fm_i Fs132 (by decide)
      have b135 : (0 : Int) ≤ iI s132 4 ∧ iI s132 4 ≤ 200 := Is132.1 4
      have b136 : ((-3) : Int) ≤ iI s132 5 ∧ iI s132 5 ≤ 255 := Is132.1 5
      have b137 : (0 : Int) ≤ iI s132 6 ∧ iI s132 6 ≤ 100000 := Is132.1 6
      have b138 : (0 : Int) ≤ iI s132 19 ∧ iI s132 19 ≤ 6 := Is132.1 19
      have b139 : (0 : Int) ≤ iI s132 16 ∧ iI s132 16 ≤ 200 := Is132.1 16
      have b140 : (0 : Int) ≤ iI s132 7 ∧ iI s132 7 ≤ 9 := Is132.1 7
      show WS k 23 [(0, .ref (A 19))] [.int (Int32.ofInt e133)] (Wd A dT s132) 0 0
      refine z_if_ne X (t := 28) (show cdA 74 23 = some (.ifCond .ne 5, 3, 1, 0, 0) from rfl) (by decide) hrs132 (fun g141 => ?_) (fun g141 => ?_)
      ·
        refine z_aload_n X (x := A 19) (show cdA 74 28 = some (.aload_n 0, 1, 0, 0, 0) from rfl) (List.Mem.head _) ?_
        refine w_dup X.1 (ax_d X (show cdA 74 29 = some (.dup, 1, 0, 0, 0) from rfl)) rfl ?_
        refine z_getI X 19 (show cdA 74 30 = some (.getfield 44, 3, 7, 12, 0) from rfl) (by decide) rfl rfl ?_
        have b142 : (0 : Int) ≤ iI s132 19 ∧ iI s132 19 ≤ 6 := Is132.1 19
        refine z_const X (show cdA 74 33 = some (.iconst 1, 1, 0, 0, 0) from rfl) ?_
        refine z_sub X (show cdA 74 34 = some (.isub, 1, 0, 0, 0) from rfl) ?_
        refine s_putI X 19 (show cdA 74 35 = some (.putfield 44, 3, 7, 12, 0) from rfl) (by decide) rfl rfl (by decide) rfl rfl rfl ?_
        obtain ⟨s143, hs143⟩ : ∃ x0, x0 = uI s132 19 (Int32.ofInt ((iI s132 19) - 1)) := ⟨_, rfl⟩
        rw [← hs143]
        have Is143 : Bd s143 := by rw [hs143]; exact bd_I Is132 (show (0 : Int) ≤ ((iI s132 19) - 1) ∧ ((iI s132 19) - 1) ≤ 6 by first | exact ⟨oq_f0761439 g141 hps132.1 g131 hps123.1 ws9_19 b6.1, oq_a9606c0d b142.2⟩ | omega) ⟨by first | exact oq_c1e961c7 b142.1 | omega, by first | exact oq_b383b26c b142.2 | omega⟩
        have Fs143 := fm_I (x := Int32.ofInt ((iI s132 19) - 1)) Gs132 (show 19 ∈ _ by decide)
        rw [← hs143] at Fs143
        have vs143 : iI s143 19 = ((iI s132 19) - 1) := by rw [hs143]; exact iI_u ⟨by first | exact oq_c1e961c7 b142.1 | omega, by first | exact oq_b383b26c b142.2 | omega⟩
        have ws143_2 : iI s143 2 = iI s132 2 := by rw [hs143]; rfl
        have ws143_1 : iI s143 1 = iI s132 1 := by rw [hs143]; rfl
        have ws143_4 : iI s143 4 = iI s132 4 := by rw [hs143]; rfl
        have ws143_5 : iI s143 5 = iI s132 5 := by rw [hs143]; rfl
        have ws143_6 : iI s143 6 = iI s132 6 := by rw [hs143]; rfl
        have ws143_16 : iI s143 16 = iI s132 16 := by rw [hs143]; rfl
        have ws143_7 : iI s143 7 = iI s132 7 := by rw [hs143]; rfl
        have dls143 : DL s143 = DL s132 := by rw [hs143]; exact rfl
        have fs143 : Fm [19] [] s132 s143 := by rw [hs143]; exact fm_I (fm_rf _ _ _) (show 19 ∈ _ by decide)
        have JBYW_s143 : BYW B N s143 := BYW_fm fs143 (by decide) JBYW_s132
        have JTKS_s143 : TKS B N s143 := TKS_fm fs143 (by decide) JTKS_s132
        refine z_aload_n X (x := A 19) (show cdA 74 38 = some (.aload_n 0, 1, 0, 0, 0) from rfl) (List.Mem.head _) ?_
        refine z_bipush X (show cdA 74 39 = some (.bipush (-8), 2, 0, 0, (-8)) from rfl) ?_
        refine z_callV X 19 (rm := rmN 82) (As := [.int (Int32.ofInt (-8))]) (st := []) (show cdA 74 41 = some (.invokevirtual 103, 3, 82, 0, 0) from rfl) rfl (by decide) rfl (by rw [E.1, E.2.1, E.2.2.1]; exact c7_put3 G Is143 (by first | exact ⟨by decide, by decide⟩ | omega) (by omega)) ⟨by rw [E.2.2.2]; exact (show 6 + 1 ≤ (12 + (32 + 3 * (r + 1))) from oq_65b7d3a7 r), by rw [E.2.2.2]; exact (show 8 + (2 + 11) + 100 ≤ (500 + 45 * (32 + 3 * (r + 1))) from oq_bfe32ab2 r), by rw [E.2.2.2]; exact Nat.le_refl 0, by rw [E.2.2.2]; exact Nat.le_refl 0⟩ (Nat.le_of_ble_eq_true rfl) (fun vv s144 hq => ?_) (fun ee s144 hq => ?_)
        rotate_left
        · obtain ⟨Is144, Fs144, hv, hps144⟩ := hq; cases hv
        obtain ⟨Is144, Fs144, hv, hps144⟩ := hq
        cases hv
        have Gs144 := fm_ts Fs143 Fs144 (by decide) (by decide)
        have JBYW_s144 : BYW B N s144 := BYW_fm Fs144 (by decide) JBYW_s143
        have JTKS_s144 : TKS B N s144 := TKS_fm Fs144 (by decide) JTKS_s143
        have ws144_2 : iI s144 2 = iI s143 2 := fm_i Fs144 (by decide)
        have ws144_1 : iI s144 1 = iI s143 1 := fm_i Fs144 (by decide)
        have ws144_4 : iI s144 4 = iI s143 4 := fm_i Fs144 (by decide)
        have ws144_5 : iI s144 5 = iI s143 5 := fm_i Fs144 (by decide)
        have ws144_6 : iI s144 6 = iI s143 6 := fm_i Fs144 (by decide)
        have ws144_19 : iI s144 19 = iI s143 19 := fm_i Fs144 (by decide)
        have b146 : (0 : Int) ≤ iI s144 16 ∧ iI s144 16 ≤ 200 := Is144.1 16
        have ws144_7 : iI s144 7 = iI s143 7 := fm_i Fs144 (by decide)
        have dls144 : DL s144 = DL s132 ++ [(-8)] := by rw [hps144.2, dls143]
        show WS k 44 [(0, .ref (A 19))] [] (Wd A dT s144) 0 0
        refine z_const X (show cdA 74 44 = some (.iconst 1, 1, 0, 0, 0) from rfl) ?_
        have hRD : RDc B N 5 (iI s 4) (iI s 19) (DL s) s144 1 := rd_not (by omega) (by omega) (by have h := hps132.2.2.2; rw [show iI s123 4 = sk B N (wdE B N (iI s 4)) by first | exact hs2 | omega, show iI s123 19 = iI s 19 + 1 by first | exact oq_60a36124 g131 hps123.1 ws9_19 | omega] at h; exact h) (dls123) (by omega) dls144 (by omega)
        exact w_iret X.1 q hRt (nar_ret (by first | exact Or.inr (by decide) | omega)) (ax_d X (show cdA 74 45 = some (.ireturn, 1, 0, 0, 0) from rfl)) (Nat.zero_le _) (Nat.zero_le _) ⟨_, rfl, Is144, Gs144, JBYW_s144, JTKS_s144, 1, rfl, (by decide), ⟨rd_post hRD rfl (by first | exact oq_4c63dc53 g141 hps132.1 g131 hps123.1 ws9_2 p1 | omega) (by first | exact b7.1 | omega) (by first | exact b146.1 | omega) (fun h9 => by first | exact oq_0fc8fa0f ws144_19 vs143 g141 hps132.1 g131 hps123.1 ws9_19 | omega), by first | exact oq_4407eb3c ws144_1 ws144_2 ws143_1 ws143_2 hps132.2.1 | omega, by first | exact oq_4407eb3c ws144_2 ws144_4 ws143_2 ws143_4 hps132.2.2.1 | omega, hRD⟩⟩
      ·
        refine z_const X (show cdA 74 26 = some (.iconst 0, 1, 0, 0, 0) from rfl) ?_
        have hRD : RDc B N 5 (iI s 4) (iI s 19) (DL s) s132 0 := rd_bad (by have h := hps132.2.2.2; rw [show iI s123 4 = sk B N (wdE B N (iI s 4)) by first | exact hs2 | omega, show iI s123 19 = iI s 19 + 1 by first | exact oq_60a36124 g131 hps123.1 ws9_19 | omega] at h; exact h) (by omega) (by omega) (fun r h z => pt_nb (by omega) (by omega) h z)
        exact w_iret X.1 q hRt (nar_ret (by first | exact Or.inl (by decide) | omega)) (ax_d X (show cdA 74 27 = some (.ireturn, 1, 0, 0, 0) from rfl)) (Nat.zero_le _) (Nat.zero_le _) ⟨_, rfl, Is132, Gs132, JBYW_s132, JTKS_s132, 0, rfl, (by decide), ⟨rd_post hRD rfl (by omega) (by first | exact b7.1 | omega) (by first | exact b139.1 | omega) (fun h9 => absurd rfl h9), by first | exact hps132.2.1 | omega, by first | exact hps132.2.2.1 | omega, hRD⟩⟩
set_option maxRecDepth 4000 in
theorem c7_bothS3 (G : GX l s0 D tys a0 dT) {B : Nat → Int} {N : Int} (SF : SF0 s0) (GT : TXw0 s0) {r : Nat} (hT : ∀ {s : PS} , Bd s → BYW B N s → TKS B N s → (iI s 2 ≤ iI s 1) → (iI s 4 ≤ iI s 2) → (6 - iI s 19 ≤ ((r : Nat) : Int)) → (iI s 16 ≤ iI s 4) → CT l s0 D A dT 74 (rkR (32 + 3 * (r))) [.ref (A 19)] s (fun o t => Bd t ∧ Fm [2, 4, 6, 5, 7, 8, 19, 16] [18] s t ∧ BYW B N t ∧ TKS B N t ∧ ∃ e, o = .inl (some (.int (Int32.ofInt e))) ∧ rng e ∧ ((e = 0 ∨ (e = 1 ∧ iI t 19 = iI s 19 ∧ iI s 4 ≤ iI t 4 ∧ iI t 4 ≤ N ∧ iI t 16 + iI s 4 ≤ iI s 16 + iI t 4)) ∧ iI t 2 ≤ iI t 1 ∧ iI t 4 ≤ iI t 2 ∧ RDc B N 5 (iI s 4) (iI s 19) (DL s) t e))) (I : Bd s) (jBYW : BYW B N s) (jTKS : TKS B N s) (p0 : iI s 2 ≤ iI s 1) (p1 : iI s 4 ≤ iI s 2) (p2 : 6 - iI s 19 ≤ ((r : Nat) : Int)) (p3 : iI s 16 ≤ iI s 4) : CT l s0 D A dT 73 (rkR (32 + 3 * (r) + 1)) [.ref (A 19)] s (fun o t => Bd t ∧ Fm [2, 4, 6, 5, 7, 8, 19, 16] [18] s t ∧ BYW B N t ∧ TKS B N t ∧ ∃ e, o = .inl (some (.int (Int32.ofInt e))) ∧ rng e ∧ ((e = 0 ∨ (e = 1 ∧ iI t 19 = iI s 19 ∧ iI s 4 ≤ iI t 4 ∧ iI t 4 ≤ N ∧ iI t 16 + iI s 4 ≤ iI s 16 + iI t 4)) ∧ iI t 2 ≤ iI t 1 ∧ iI t 4 ≤ iI t 2 ∧ RDc B N 6 (iI s 4) (iI s 19) (DL s) t e)) := by
  refine ct_ofX G (by decide) (Nat.le_of_ble_eq_true rfl) (fun k X E ET hRt hXt q => ?_)
  show WS k 0 [(0, .ref (A 19))] [] _ 0 0
  have F : Fm [2, 4, 6, 5, 7, 8, 19, 16] [18] s s := fm_rf _ _ s
  have hN := jBYW.2.1
  have hW := jBYW.2.2
  have hdg := tkw_dg jTKS
  have hwd := tkw_wd jTKS
  have b1 : (0 : Int) ≤ iI s 2 ∧ iI s 2 ≤ 200 := I.1 2
  have b2 : (0 : Int) ≤ iI s 1 ∧ iI s 1 ≤ 200 := I.1 1
  have b3 : (0 : Int) ≤ iI s 4 ∧ iI s 4 ≤ 200 := I.1 4
  have b4 : ((-3) : Int) ≤ iI s 5 ∧ iI s 5 ≤ 255 := I.1 5
  have b5 : (0 : Int) ≤ iI s 6 ∧ iI s 6 ≤ 100000 := I.1 6
  have b6 : (0 : Int) ≤ iI s 19 ∧ iI s 19 ≤ 6 := I.1 19
  have b7 : (0 : Int) ≤ iI s 16 ∧ iI s 16 ≤ 200 := I.1 16
  have b8 : (0 : Int) ≤ iI s 7 ∧ iI s 7 ≤ 9 := I.1 7
  have L11 : ∀ (n : Nat) (t : PS) (c : Int), Bd t → Fm [2, 4, 6, 5, 7, 8, 19, 16] [18] s t → BYW B N t → TKS B N t → (RSc B N 7 6 (iI s 4) (iI s 19) (DL s) t) → (0 ≤ c ∧ c ≤ 200 ∧ iI t 19 = iI s 19 ∧ iI s 4 ≤ iI t 4 ∧ iI t 4 ≤ N ∧ iI t 16 + iI s 4 ≤ iI s 16 + iI t 4 ∧ c + iI s 4 ≤ iI t 4 ∧ iI t 2 ≤ iI t 1 ∧ iI t 4 ≤ iI t 2) → (200 - c : Int).toNat < n → (∀ (t' : PS) (c' : Int), Bd t' → Fm [2, 4, 6, 5, 7, 8, 19, 16] [18] s t' → BYW B N t' → TKS B N t' → (RSc B N 7 6 (iI s 4) (iI s 19) (DL s) t') → (0 ≤ c' ∧ c' ≤ 200 ∧ iI t' 19 = iI s 19 ∧ iI s 4 ≤ iI t' 4 ∧ iI t' 4 ≤ N ∧ iI t' 16 + iI s 4 ≤ iI s 16 + iI t' 4 ∧ c' + iI s 4 ≤ iI t' 4 ∧ iI t' 2 ≤ iI t' 1 ∧ iI t' 4 ≤ iI t' 2 ∧ whV B N (iI t' 4) ≠ 1111) → WS k 58 [(0, .ref (A 19)), (1, .int (Int32.ofInt c'))] [] (Wd A dT t') 0 0) → WS k 11 [(0, .ref (A 19)), (1, .int (Int32.ofInt c))] [] (Wd A dT t) 0 0 := by
    intro n
    induction n with
    | zero =>
      intro t c I F jjBYW jjTKS hq hi hm kx
      exact absurd hm (Nat.not_lt_zero _)
    | succ n ih =>
      intro t c I F jjBYW jjTKS hq hi hm kx
      have b1001 : (0 : Int) ≤ iI t 2 ∧ iI t 2 ≤ 200 := I.1 2
      have b1002 : (0 : Int) ≤ iI t 1 ∧ iI t 1 ≤ 200 := I.1 1
      have b1003 : (0 : Int) ≤ iI t 4 ∧ iI t 4 ≤ 200 := I.1 4
      have b1004 : ((-3) : Int) ≤ iI t 5 ∧ iI t 5 ≤ 255 := I.1 5
      have b1005 : (0 : Int) ≤ iI t 6 ∧ iI t 6 ≤ 100000 := I.1 6
      have b1006 : (0 : Int) ≤ iI t 19 ∧ iI t 19 ≤ 6 := I.1 19
      have b1007 : (0 : Int) ≤ iI t 16 ∧ iI t 16 ≤ 200 := I.1 16
      have b1008 : (0 : Int) ≤ iI t 7 ∧ iI t 7 ≤ 9 := I.1 7
      have hN := jjBYW.2.1
      have hW := jjBYW.2.2
      have hwt := tkw_wd jjTKS
      have hlt := tkw_end jjTKS
      refine z_load_n X (x := c) (show cdA 73 11 = some (.iload_n 1, 1, 0, 0, 0) from rfl) (List.Mem.tail _ (List.Mem.head _)) ?_
      refine z_sipush X (show cdA 73 12 = some (.sipush 200, 3, 0, 0, 200) from rfl) ?_
      refine z_icmp_ge X (t := 58) (show cdA 73 15 = some (.if_icmp .ge 43, 3, 3, 0, 0) from rfl) (by decide) ⟨by first | exact oq_fa4e5087 hi.1 | omega, by first | exact oq_52af2b96 hi.2.1 | omega⟩ (by decide) (fun g1009 => ?_) (fun g1009 => ?_)
      ·
        refine WS_lv (lv := [(0, .ref (A 19)), (1, .int (Int32.ofInt c))]) (List.forall_mem_cons.mpr ⟨(List.Mem.head _), (List.forall_mem_cons.mpr ⟨(List.Mem.tail _ (List.Mem.head _)), (fun q h => absurd h List.not_mem_nil)⟩)⟩) ?_
        exact kx _ c I F jjBYW jjTKS (rx_mv hq rfl (by omega)) (by first | exact ⟨hi.1, hi.2.1, hi.2.2.1, hi.2.2.2.1, hi.2.2.2.2.1, hi.2.2.2.2.2.1, hi.2.2.2.2.2.2.1, hi.2.2.2.2.2.2.2.1, hi.2.2.2.2.2.2.2.2, by omega⟩ | omega)
      ·
        refine z_aload_n X (x := A 19) (show cdA 73 18 = some (.aload_n 0, 1, 0, 0, 0) from rfl) (List.Mem.head _) ?_
        refine s_getR X 19 (show cdA 73 19 = some (.getfield 31, 3, 7, 0, 0) from rfl) (by decide) rfl rfl ?_
        obtain ⟨tx109, q109, hR109, hS109⟩ := GT (109, [97, 110, 100]) (by decide)
        refine w_ldcK X (show vk_R (kOwn k) 109 tx109 q109 (kS0 k) by rw [E.2.1, X.2.1.2.1]; exact hR109) (show decode (kCc k) 22 = .ok (.ldc 109, 2) by rw [X.2.1.1]; decide +kernel) ?_
        refine z_callV X 1 (rm := rmN 131) (As := [.ref q109]) (st := []) (show cdA 73 24 = some (.invokevirtual 76, 3, 131, 0, 0) from rfl) rfl (by decide) rfl (by rw [E.1, E.2.1, E.2.2.1]; exact c10_says3 G SF hS109 (by decide) I jjBYW jjTKS (by first | exact hi.2.2.2.2.2.2.2.2 | omega)) ⟨by rw [E.2.2.2]; exact (show 11 + 1 ≤ (12 + (32 + 3 * (r) + 1)) from oq_960124c6 r), by rw [E.2.2.2]; exact (show 8 + (3 + 11) + 206 ≤ (500 + 45 * (32 + 3 * (r) + 1)) from oq_7c76c90d r), by rw [E.2.2.2]; exact Nat.le_refl 0, by rw [E.2.2.2]; exact Nat.le_refl 0⟩ (Nat.le_of_ble_eq_true rfl) (fun vv s1010 hq => ?_) (fun ee s1010 hq => ?_)
        rotate_left
        · obtain ⟨Is1010, Fs1010, JBYW_s1010, JTKS_s1010, e1011, hv, hrs1010, hps1010⟩ := hq; cases hv
        obtain ⟨Is1010, Fs1010, JBYW_s1010, JTKS_s1010, e1011, hv, hrs1010, hps1010⟩ := hq
        cases hv
        have Gs1010 := fm_ts F Fs1010 (by decide) (by decide)
        have JBYW_s1010 : BYW B N s1010 := BYW_fm Fs1010 (by decide) jjBYW
        have JTKS_s1010 : TKS B N s1010 := TKS_fm Fs1010 (by decide) jjTKS
        have ws1010_2 : iI s1010 2 = iI t 2 := fm_i Fs1010 (by decide)
        have ws1010_1 : iI s1010 1 = iI t 1 := fm_i Fs1010 (by decide)
        have ws1010_4 : iI s1010 4 = iI t 4 := fm_i Fs1010 (by decide)
        have ws1010_5 : iI s1010 5 = iI t 5 := fm_i Fs1010 (by decide)
        have ws1010_6 : iI s1010 6 = iI t 6 := fm_i Fs1010 (by decide)
        have ws1010_19 : iI s1010 19 = iI t 19 := fm_i Fs1010 (by decide)
        have ws1010_16 : iI s1010 16 = iI t 16 := fm_i Fs1010 (by decide)
        have ws1010_7 : iI s1010 7 = iI t 7 := fm_i Fs1010 (by decide)
        have dls1010 : DL s1010 = DL t := (DL_fm Fs1010 (by decide) (by decide)).trans rfl
        have hws1010 : (e1011 = 1 ∧ whV B N (iI t 4) = 1111) ∨ (e1011 = 0 ∧ whV B N (iI t 4) ≠ 1111) := by have h := hps1010; rw [show iI t 4 = iI t 4 by omega, show whL [97, 110, 100] 0 = 1111 by decide] at h; exact h
        have hxs1010 : whV B N (iI s1010 4) = whV B N (iI t 4) := by rw [show iI s1010 4 = iI t 4 by omega]
        show WS k 27 [(0, .ref (A 19)), (1, .int (Int32.ofInt c))] [.int (Int32.ofInt e1011)] (Wd A dT s1010) 0 0
        refine z_if_eq X (t := 58) (show cdA 73 27 = some (.ifCond .eq 31, 3, 0, 0, 0) from rfl) (by decide) hrs1010 (fun g1012 => ?_) (fun g1012 => ?_)
        ·
          refine WS_lv (lv := [(0, .ref (A 19)), (1, .int (Int32.ofInt c))]) (List.forall_mem_cons.mpr ⟨(List.Mem.head _), (List.forall_mem_cons.mpr ⟨(List.Mem.tail _ (List.Mem.head _)), (fun q h => absurd h List.not_mem_nil)⟩)⟩) ?_
          exact kx _ c Is1010 Gs1010 JBYW_s1010 JTKS_s1010 (rx_mv hq dls1010 (by omega)) (by first | exact ⟨hi.1, hi.2.1, oq_1aa5be9e ws1010_19 hi.2.2.1, oq_9272904e ws1010_4 hi.2.2.2.1, oq_f0f6d445 hi.2.2.2.2.1 ws1010_4, oq_04f87ec0 ws1010_4 ws1010_16 hi.2.2.2.2.2.1, oq_6f744107 ws1010_4 hi.2.2.2.2.2.2.1, oq_e7b9ecab ws1010_1 ws1010_2 hi.2.2.2.2.2.2.2.1, oq_e7b9ecab ws1010_2 ws1010_4 hi.2.2.2.2.2.2.2.2, oq_70de8461 g1012 hxs1010 hws1010⟩ | omega)
        ·
          refine z_aload_n X (x := A 19) (show cdA 73 30 = some (.aload_n 0, 1, 0, 0, 0) from rfl) (List.Mem.head _) ?_
          refine s_getR X 19 (show cdA 73 31 = some (.getfield 31, 3, 7, 0, 0) from rfl) (by decide) rfl rfl ?_
          have hcd : whV B N (iI t 4) = 1111 := by omega
          have hk3 : iI t 5 = -3 := Classical.byContradiction (fun q => by have := hwt.2 q; omega)
          have ha1 := (hwt.1 hk3).1
          have hg1 := (hwt.1 hk3).2
          refine z_callV X 1 (rm := rmN 129) (As := []) (st := []) (show cdA 73 34 = some (.invokevirtual 85, 3, 129, 0, 0) from rfl) rfl (by decide) rfl (by rw [E.1, E.2.1, E.2.2.1]; exact c10_step3 G Is1010 JBYW_s1010 (by first | exact oq_e7b9ecab ws1010_1 ws1010_2 hi.2.2.2.2.2.2.2.1 | omega)) ⟨by rw [E.2.2.2]; exact (show 7 + 1 ≤ (12 + (32 + 3 * (r) + 1)) from oq_7e7bafa7 r), by rw [E.2.2.2]; exact (show 8 + (1 + 11) + 121 ≤ (500 + 45 * (32 + 3 * (r) + 1)) from oq_f1058fdb r), by rw [E.2.2.2]; exact Nat.le_refl 0, by rw [E.2.2.2]; exact Nat.le_refl 0⟩ (Nat.le_of_ble_eq_true rfl) (fun vv s1013 hq => ?_) (fun ee s1013 hq => ?_)
          rotate_left
          · obtain ⟨Is1013, Fs1013, JBYW_s1013, JTKS_s1013, hv, hps1013⟩ := hq; cases hv
          obtain ⟨Is1013, Fs1013, JBYW_s1013, JTKS_s1013, hv, hps1013⟩ := hq
          cases hv
          have Gs1013 := fm_ts Gs1010 Fs1013 (by decide) (by decide)
          have JBYW_s1013 : BYW B N s1013 := BYW_fm Fs1013 (by decide) JBYW_s1010
          have b1015 : (0 : Int) ≤ iI s1013 2 ∧ iI s1013 2 ≤ 200 := Is1013.1 2
          have ws1013_1 : iI s1013 1 = iI s1010 1 := fm_i Fs1013 (by decide)
          have b1016 : (0 : Int) ≤ iI s1013 4 ∧ iI s1013 4 ≤ 200 := Is1013.1 4
          have b1017 : ((-3) : Int) ≤ iI s1013 5 ∧ iI s1013 5 ≤ 255 := Is1013.1 5
          have b1018 : (0 : Int) ≤ iI s1013 6 ∧ iI s1013 6 ≤ 100000 := Is1013.1 6
          have ws1013_19 : iI s1013 19 = iI s1010 19 := fm_i Fs1013 (by decide)
          have ws1013_16 : iI s1013 16 = iI s1010 16 := fm_i Fs1013 (by decide)
          have ws1013_7 : iI s1013 7 = iI s1010 7 := fm_i Fs1013 (by decide)
          have dls1013 : DL s1013 = DL t := (DL_fm Fs1013 (by decide) (by decide)).trans dls1010
          show WS k 37 [(0, .ref (A 19)), (1, .int (Int32.ofInt c))] [] (Wd A dT s1013) 0 0
          have hs9 : iI s1013 4 = sk B N (wdE B N (iI t 4)) := by rw [hps1013.2.2.1, show iI s1010 2 = wdE B N (iI t 4) by omega]
          refine z_aload_n X (x := A 19) (show cdA 73 37 = some (.aload_n 0, 1, 0, 0, 0) from rfl) (List.Mem.head _) ?_
          refine z_callV X 19 (rm := (rkR (32 + 3 * (r)))) (As := []) (st := []) (show cdA 73 38 = some (.invokevirtual 106, 3, 74, 0, 0) from rfl) rfl (by decide) rfl (by rw [E.1, E.2.1, E.2.2.1]; exact hT Is1013 JBYW_s1013 JTKS_s1013 (by first | exact hps1013.1 | omega) (by first | exact hps1013.2.1 | omega) (by first | exact oq_f4f80c46 p2 ws1013_19 hi.2.2.1 ws1010_19 | omega) (by first | exact oq_957188f6 ws1013_16 hps1013.2.2.2 ws1010_16 ws1010_2 hi.2.2.2.2.2.2.2.2 hi.2.2.2.2.2.1 p3 | omega)) ⟨by rw [E.2.2.2]; exact (show (12 + (32 + 3 * (r))) + 1 ≤ (12 + (32 + 3 * (r) + 1)) from oq_2290fc41 r), by rw [E.2.2.2]; exact (show 8 + (2 + 11) + (500 + 45 * (32 + 3 * (r))) ≤ (500 + 45 * (32 + 3 * (r) + 1)) from oq_ab38c8cf r), by rw [E.2.2.2]; exact Nat.le_refl 0, by rw [E.2.2.2]; exact Nat.le_refl 0⟩ (Nat.le_of_ble_eq_true rfl) (fun vv s1019 hq => ?_) (fun ee s1019 hq => ?_)
          rotate_left
          · obtain ⟨Is1019, Fs1019, JBYW_s1019, JTKS_s1019, e1020, hv, hrs1019, hps1019⟩ := hq; cases hv
          obtain ⟨Is1019, Fs1019, JBYW_s1019, JTKS_s1019, e1020, hv, hrs1019, hps1019⟩ := hq
          cases hv
          have Gs1019 := fm_ts Gs1013 Fs1019 (by decide) (by decide)
          have JBYW_s1019 : BYW B N s1019 := BYW_fm Fs1019 (by decide) JBYW_s1013
          have b1021 : (0 : Int) ≤ iI s1019 2 ∧ iI s1019 2 ≤ 200 := Is1019.1 2
          have ws1019_1 : iI s1019 1 = iI s1013 1 := fm_i Fs1019 (by decide)
          have b1022 : (0 : Int) ≤ iI s1019 4 ∧ iI s1019 4 ≤ 200 := Is1019.1 4
          have b1023 : ((-3) : Int) ≤ iI s1019 5 ∧ iI s1019 5 ≤ 255 := Is1019.1 5
          have b1024 : (0 : Int) ≤ iI s1019 6 ∧ iI s1019 6 ≤ 100000 := Is1019.1 6
          have b1025 : (0 : Int) ≤ iI s1019 19 ∧ iI s1019 19 ≤ 6 := Is1019.1 19
          have b1026 : (0 : Int) ≤ iI s1019 16 ∧ iI s1019 16 ≤ 200 := Is1019.1 16
          have b1027 : (0 : Int) ≤ iI s1019 7 ∧ iI s1019 7 ≤ 9 := Is1019.1 7
          show WS k 41 [(0, .ref (A 19)), (1, .int (Int32.ofInt c))] [.int (Int32.ofInt e1020)] (Wd A dT s1019) 0 0
          refine z_if_ne X (t := 46) (show cdA 73 41 = some (.ifCond .ne 5, 3, 1, 0, 0) from rfl) (by decide) hrs1019 (fun g1028 => ?_) (fun g1028 => ?_)
          ·
            refine z_aload_n X (x := A 19) (show cdA 73 46 = some (.aload_n 0, 1, 0, 0, 0) from rfl) (List.Mem.head _) ?_
            refine z_bipush X (show cdA 73 47 = some (.bipush (-18), 2, 0, 0, (-18)) from rfl) ?_
            refine z_callV X 19 (rm := rmN 82) (As := [.int (Int32.ofInt (-18))]) (st := []) (show cdA 73 49 = some (.invokevirtual 103, 3, 82, 0, 0) from rfl) rfl (by decide) rfl (by rw [E.1, E.2.1, E.2.2.1]; exact c7_put3 G Is1019 (by first | exact ⟨by decide, by decide⟩ | omega) (by omega)) ⟨by rw [E.2.2.2]; exact (show 6 + 1 ≤ (12 + (32 + 3 * (r) + 1)) from oq_b5194544 r), by rw [E.2.2.2]; exact (show 8 + (2 + 11) + 100 ≤ (500 + 45 * (32 + 3 * (r) + 1)) from oq_38be39c2 r), by rw [E.2.2.2]; exact Nat.le_refl 0, by rw [E.2.2.2]; exact Nat.le_refl 0⟩ (Nat.le_of_ble_eq_true rfl) (fun vv s1029 hq => ?_) (fun ee s1029 hq => ?_)
            rotate_left
            · obtain ⟨Is1029, Fs1029, hv, hps1029⟩ := hq; cases hv
            obtain ⟨Is1029, Fs1029, hv, hps1029⟩ := hq
            cases hv
            have Gs1029 := fm_ts Gs1019 Fs1029 (by decide) (by decide)
            have JBYW_s1029 : BYW B N s1029 := BYW_fm Fs1029 (by decide) JBYW_s1019
            have JTKS_s1029 : TKS B N s1029 := TKS_fm Fs1029 (by decide) JTKS_s1019
            have ws1029_2 : iI s1029 2 = iI s1019 2 := fm_i Fs1029 (by decide)
            have ws1029_1 : iI s1029 1 = iI s1019 1 := fm_i Fs1029 (by decide)
            have ws1029_4 : iI s1029 4 = iI s1019 4 := fm_i Fs1029 (by decide)
            have ws1029_5 : iI s1029 5 = iI s1019 5 := fm_i Fs1029 (by decide)
            have ws1029_6 : iI s1029 6 = iI s1019 6 := fm_i Fs1029 (by decide)
            have ws1029_19 : iI s1029 19 = iI s1019 19 := fm_i Fs1029 (by decide)
            have b1031 : (0 : Int) ≤ iI s1029 16 ∧ iI s1029 16 ≤ 200 := Is1029.1 16
            have ws1029_7 : iI s1029 7 = iI s1019 7 := fm_i Fs1029 (by decide)
            have dls1029 : DL s1029 = DL s1019 ++ [(-18)] := by rw [hps1029.2]
            show WS k 52 [(0, .ref (A 19)), (1, .int (Int32.ofInt c))] [] (Wd A dT s1029) 0 0
            refine z_inc X (x := c) (lv' := [(1, .int (Int32.ofInt (c + 1))), (0, .ref (A 19))]) (show cdA 73 52 = some (.iinc 1 1, 3, 0, 0, 0) from rfl) (by decide) (List.Mem.tail _ (List.Mem.head _)) (fun _ h => h) ?_
            refine z_goto X (t := 11) (show cdA 73 55 = some (.goto (-44), 3, 0, 0, 0) from rfl) (by decide) ?_
            refine WS_lv (lv := [(0, .ref (A 19)), (1, .int (Int32.ofInt (c + 1)))]) (List.forall_mem_cons.mpr ⟨(List.Mem.tail _ (List.Mem.head _)), (List.forall_mem_cons.mpr ⟨(List.Mem.head _), (fun q h => absurd h List.not_mem_nil)⟩)⟩) ?_
            exact ih _ (c + 1) Is1029 Gs1029 JBYW_s1029 JTKS_s1029 (rx_up (q1 := sk B N (wdE B N (iI t 4))) hq (dls1013) (by have h := hps1019.2.2.2; rw [show iI s1013 4 = sk B N (wdE B N (iI t 4)) by omega, show iI s1013 19 = iI s 19 by omega] at h; exact h) (by omega) dls1029 (by omega) (fun a r r1 h z h2 => rb_go hcd h z h2)) (by first | exact ⟨oq_54f49eb5 hi.1, oq_0cb6ab8a g1009, oq_98ac5764 ws1029_19 g1028 hps1019.1 ws1013_19 ws1010_19 hi.2.2.1, oq_614567b2 ws1029_4 g1028 hps1019.1 hps1013.2.2.2 ws1010_2 hi.2.2.2.2.2.2.2.2 hi.2.2.2.1, oq_a2786552 ws1029_4 g1028 hps1019.1, by omega, by omega, oq_e7b9ecab ws1029_1 ws1029_2 hps1019.2.1, oq_e7b9ecab ws1029_2 ws1029_4 hps1019.2.2.1⟩ | omega) (by first | exact qk_me hm (by decide) (oq_1ab01402 g1009) | omega) kx
          ·
            refine z_const X (show cdA 73 44 = some (.iconst 0, 1, 0, 0, 0) from rfl) ?_
            have hRD : RDc B N 6 (iI s 4) (iI s 19) (DL s) s1019 0 := rx_bad hq (by have h := hps1019.2.2.2; rw [show iI s1013 4 = sk B N (wdE B N (iI t 4)) by omega, show iI s1013 19 = iI s 19 by omega] at h; exact h) (by omega) (by omega) (fun a r h z => rb_bad hcd h z)
            exact w_iret X.1 q hRt (nar_ret (by first | exact Or.inl (by decide) | omega)) (ax_d X (show cdA 73 45 = some (.ireturn, 1, 0, 0, 0) from rfl)) (Nat.zero_le _) (Nat.zero_le _) ⟨_, rfl, Is1019, Gs1019, JBYW_s1019, JTKS_s1019, 0, rfl, (by decide), ⟨rd_post hRD rfl (by first | exact oq_f8a2cf0e hi.2.2.2.2.1 hi.2.2.2.1 | omega) (by first | exact b7.1 | omega) (by first | exact b1026.1 | omega) (fun h9 => absurd rfl h9), by first | exact hps1019.2.1 | omega, by first | exact hps1019.2.2.1 | omega, hRD⟩⟩
  refine z_aload_n X (x := A 19) (show cdA 73 0 = some (.aload_n 0, 1, 0, 0, 0) from rfl) (List.Mem.head _) ?_
  refine z_callV X 19 (rm := (rkR (32 + 3 * (r)))) (As := []) (st := []) (show cdA 73 1 = some (.invokevirtual 106, 3, 74, 0, 0) from rfl) rfl (by decide) rfl (by rw [E.1, E.2.1, E.2.2.1]; exact hT I jBYW jTKS (by first | exact p0 | omega) (by first | exact p1 | omega) (by first | exact p2 | omega) (by first | exact p3 | omega)) ⟨by rw [E.2.2.2]; exact (show (12 + (32 + 3 * (r))) + 1 ≤ (12 + (32 + 3 * (r) + 1)) from oq_2290fc41 r), by rw [E.2.2.2]; exact (show 8 + (2 + 11) + (500 + 45 * (32 + 3 * (r))) ≤ (500 + 45 * (32 + 3 * (r) + 1)) from oq_ab38c8cf r), by rw [E.2.2.2]; exact Nat.le_refl 0, by rw [E.2.2.2]; exact Nat.le_refl 0⟩ (Nat.le_of_ble_eq_true rfl) (fun vv s9 hq => ?_) (fun ee s9 hq => ?_)
  rotate_left
  · obtain ⟨Is9, Fs9, JBYW_s9, JTKS_s9, e10, hv, hrs9, hps9⟩ := hq; cases hv
  obtain ⟨Is9, Fs9, JBYW_s9, JTKS_s9, e10, hv, hrs9, hps9⟩ := hq
  cases hv
  have Gs9 := fm_ts F Fs9 (by decide) (by decide)
  have JBYW_s9 : BYW B N s9 := BYW_fm Fs9 (by decide) jBYW
  have b11 : (0 : Int) ≤ iI s9 2 ∧ iI s9 2 ≤ 200 := Is9.1 2
  have ws9_1 : iI s9 1 = iI s 1 := fm_i Fs9 (by decide)
  have b12 : (0 : Int) ≤ iI s9 4 ∧ iI s9 4 ≤ 200 := Is9.1 4
  have b13 : ((-3) : Int) ≤ iI s9 5 ∧ iI s9 5 ≤ 255 := Is9.1 5
  have b14 : (0 : Int) ≤ iI s9 6 ∧ iI s9 6 ≤ 100000 := Is9.1 6
  have b15 : (0 : Int) ≤ iI s9 19 ∧ iI s9 19 ≤ 6 := Is9.1 19
  have b16 : (0 : Int) ≤ iI s9 16 ∧ iI s9 16 ≤ 200 := Is9.1 16
  have b17 : (0 : Int) ≤ iI s9 7 ∧ iI s9 7 ≤ 9 := Is9.1 7
  show WS k 4 [(0, .ref (A 19))] [.int (Int32.ofInt e10)] (Wd A dT s9) 0 0
  refine z_if_ne X (t := 9) (show cdA 73 4 = some (.ifCond .ne 5, 3, 1, 0, 0) from rfl) (by decide) hrs9 (fun g18 => ?_) (fun g18 => ?_)
  ·
    refine z_const X (show cdA 73 9 = some (.iconst 0, 1, 0, 0, 0) from rfl) ?_
    refine z_store_n X (lv' := [(1, .int (Int32.ofInt 0)), (0, .ref (A 19))]) (show cdA 73 10 = some (.istore_n 1, 1, 0, 0, 0) from rfl) (by decide) (fun _ h => h) ?_
    refine WS_lv (lv := [(0, .ref (A 19)), (1, .int (Int32.ofInt 0))]) (List.forall_mem_cons.mpr ⟨(List.Mem.tail _ (List.Mem.head _)), (List.forall_mem_cons.mpr ⟨(List.Mem.head _), (fun q h => absurd h List.not_mem_nil)⟩)⟩) ?_
    refine L11 ((200 - 0 : Int).toNat + 1) s9 0 Is9 Gs9 JBYW_s9 JTKS_s9 (rx_0 hps9.2.2.2 (by omega) (fun r r1 h z h2 => wb_go h z h2)) (by first | exact ⟨by decide, by decide, oq_6259e910 g18 hps9.1, oq_af044290 g18 hps9.1, oq_0f66faba g18 hps9.1, oq_3cd265a3 g18 hps9.1, oq_c32860b4 g18 hps9.1, hps9.2.1, hps9.2.2.1⟩ | omega) (Nat.lt_succ_self _) ?_
    intro s19 x20 Is19 Fs19 JBYW_s19 JTKS_s19 Qs19 hs19
    have b21 : (0 : Int) ≤ iI s19 2 ∧ iI s19 2 ≤ 200 := Is19.1 2
    have b22 : (0 : Int) ≤ iI s19 1 ∧ iI s19 1 ≤ 200 := Is19.1 1
    have b23 : (0 : Int) ≤ iI s19 4 ∧ iI s19 4 ≤ 200 := Is19.1 4
    have b24 : ((-3) : Int) ≤ iI s19 5 ∧ iI s19 5 ≤ 255 := Is19.1 5
    have b25 : (0 : Int) ≤ iI s19 6 ∧ iI s19 6 ≤ 100000 := Is19.1 6
    have b26 : (0 : Int) ≤ iI s19 19 ∧ iI s19 19 ≤ 6 := Is19.1 19
    have b27 : (0 : Int) ≤ iI s19 16 ∧ iI s19 16 ≤ 200 := Is19.1 16
    have b28 : (0 : Int) ≤ iI s19 7 ∧ iI s19 7 ≤ 9 := Is19.1 7
    have hNs19 := JBYW_s19.2.1
    have hWs19 := JBYW_s19.2.2
    refine z_const X (show cdA 73 58 = some (.iconst 1, 1, 0, 0, 0) from rfl) ?_
    have hRD : RDc B N 6 (iI s 4) (iI s 19) (DL s) s19 1 := rx_end Qs19 (fun a => rb_end (by omega))
    exact w_iret X.1 q hRt (nar_ret (by first | exact Or.inr (by decide) | omega)) (ax_d X (show cdA 73 59 = some (.ireturn, 1, 0, 0, 0) from rfl)) (Nat.zero_le _) (Nat.zero_le _) ⟨_, rfl, Is19, Fs19, JBYW_s19, JTKS_s19, 1, rfl, (by decide), ⟨rd_post hRD rfl (by first | exact oq_f8a2cf0e hs19.2.2.2.2.1 hs19.2.2.2.1 | omega) (by first | exact b7.1 | omega) (by first | exact b27.1 | omega) (fun h9 => by first | exact hs19.2.2.1 | omega), by first | exact hs19.2.2.2.2.2.2.2.1 | omega, by first | exact hs19.2.2.2.2.2.2.2.2.1 | omega, hRD⟩⟩
  ·
    refine z_const X (show cdA 73 7 = some (.iconst 0, 1, 0, 0, 0) from rfl) ?_
    have hRD : RDc B N 6 (iI s 4) (iI s 19) (DL s) s9 0 := rd_bad hps9.2.2.2 (by omega) (by omega) (fun r h z => wb_bad h z)
    exact w_iret X.1 q hRt (nar_ret (by first | exact Or.inl (by decide) | omega)) (ax_d X (show cdA 73 8 = some (.ireturn, 1, 0, 0, 0) from rfl)) (Nat.zero_le _) (Nat.zero_le _) ⟨_, rfl, Is9, Gs9, JBYW_s9, JTKS_s9, 0, rfl, (by decide), ⟨rd_post hRD rfl (by omega) (by first | exact b7.1 | omega) (by first | exact b16.1 | omega) (fun h9 => absurd rfl h9), by first | exact hps9.2.1 | omega, by first | exact hps9.2.2.1 | omega, hRD⟩⟩
set_option maxRecDepth 4000 in
theorem c7_eithS3 (G : GX l s0 D tys a0 dT) {B : Nat → Int} {N : Int} (SF : SF0 s0) (GT : TXw0 s0) {r : Nat} (hB : ∀ {s : PS} , Bd s → BYW B N s → TKS B N s → (iI s 2 ≤ iI s 1) → (iI s 4 ≤ iI s 2) → (6 - iI s 19 ≤ ((r : Nat) : Int)) → (iI s 16 ≤ iI s 4) → CT l s0 D A dT 73 (rkR (32 + 3 * (r) + 1)) [.ref (A 19)] s (fun o t => Bd t ∧ Fm [2, 4, 6, 5, 7, 8, 19, 16] [18] s t ∧ BYW B N t ∧ TKS B N t ∧ ∃ e, o = .inl (some (.int (Int32.ofInt e))) ∧ rng e ∧ ((e = 0 ∨ (e = 1 ∧ iI t 19 = iI s 19 ∧ iI s 4 ≤ iI t 4 ∧ iI t 4 ≤ N ∧ iI t 16 + iI s 4 ≤ iI s 16 + iI t 4)) ∧ iI t 2 ≤ iI t 1 ∧ iI t 4 ≤ iI t 2 ∧ RDc B N 6 (iI s 4) (iI s 19) (DL s) t e))) (I : Bd s) (jBYW : BYW B N s) (jTKS : TKS B N s) (p0 : iI s 2 ≤ iI s 1) (p1 : iI s 4 ≤ iI s 2) (p2 : 6 - iI s 19 ≤ ((r : Nat) : Int)) (p3 : iI s 16 ≤ iI s 4) : CT l s0 D A dT 72 (rkR (32 + 3 * (r) + 2)) [.ref (A 19)] s (fun o t => Bd t ∧ Fm [2, 4, 6, 5, 7, 8, 19, 16] [18] s t ∧ BYW B N t ∧ TKS B N t ∧ ∃ e, o = .inl (some (.int (Int32.ofInt e))) ∧ rng e ∧ ((e = 0 ∨ (e = 1 ∧ iI t 19 = iI s 19 ∧ iI s 4 ≤ iI t 4 ∧ iI t 4 ≤ N ∧ iI t 16 + iI s 4 ≤ iI s 16 + iI t 4)) ∧ iI t 2 ≤ iI t 1 ∧ iI t 4 ≤ iI t 2 ∧ RDc B N 8 (iI s 4) (iI s 19) (DL s) t e)) := by
  refine ct_ofX G (by decide) (Nat.le_of_ble_eq_true rfl) (fun k X E ET hRt hXt q => ?_)
  show WS k 0 [(0, .ref (A 19))] [] _ 0 0
  have F : Fm [2, 4, 6, 5, 7, 8, 19, 16] [18] s s := fm_rf _ _ s
  have hN := jBYW.2.1
  have hW := jBYW.2.2
  have hdg := tkw_dg jTKS
  have hwd := tkw_wd jTKS
  have b1 : (0 : Int) ≤ iI s 2 ∧ iI s 2 ≤ 200 := I.1 2
  have b2 : (0 : Int) ≤ iI s 1 ∧ iI s 1 ≤ 200 := I.1 1
  have b3 : (0 : Int) ≤ iI s 4 ∧ iI s 4 ≤ 200 := I.1 4
  have b4 : ((-3) : Int) ≤ iI s 5 ∧ iI s 5 ≤ 255 := I.1 5
  have b5 : (0 : Int) ≤ iI s 6 ∧ iI s 6 ≤ 100000 := I.1 6
  have b6 : (0 : Int) ≤ iI s 19 ∧ iI s 19 ≤ 6 := I.1 19
  have b7 : (0 : Int) ≤ iI s 16 ∧ iI s 16 ≤ 200 := I.1 16
  have b8 : (0 : Int) ≤ iI s 7 ∧ iI s 7 ≤ 9 := I.1 7
  have L11 : ∀ (n : Nat) (t : PS) (c : Int), Bd t → Fm [2, 4, 6, 5, 7, 8, 19, 16] [18] s t → BYW B N t → TKS B N t → (RSc B N 9 8 (iI s 4) (iI s 19) (DL s) t) → (0 ≤ c ∧ c ≤ 200 ∧ iI t 19 = iI s 19 ∧ iI s 4 ≤ iI t 4 ∧ iI t 4 ≤ N ∧ iI t 16 + iI s 4 ≤ iI s 16 + iI t 4 ∧ c + iI s 4 ≤ iI t 4 ∧ iI t 2 ≤ iI t 1 ∧ iI t 4 ≤ iI t 2) → (200 - c : Int).toNat < n → (∀ (t' : PS) (c' : Int), Bd t' → Fm [2, 4, 6, 5, 7, 8, 19, 16] [18] s t' → BYW B N t' → TKS B N t' → (RSc B N 9 8 (iI s 4) (iI s 19) (DL s) t') → (0 ≤ c' ∧ c' ≤ 200 ∧ iI t' 19 = iI s 19 ∧ iI s 4 ≤ iI t' 4 ∧ iI t' 4 ≤ N ∧ iI t' 16 + iI s 4 ≤ iI s 16 + iI t' 4 ∧ c' + iI s 4 ≤ iI t' 4 ∧ iI t' 2 ≤ iI t' 1 ∧ iI t' 4 ≤ iI t' 2 ∧ whV B N (iI t' 4) ≠ 423) → WS k 58 [(0, .ref (A 19)), (1, .int (Int32.ofInt c'))] [] (Wd A dT t') 0 0) → WS k 11 [(0, .ref (A 19)), (1, .int (Int32.ofInt c))] [] (Wd A dT t) 0 0 := by
    intro n
    induction n with
    | zero =>
      intro t c I F jjBYW jjTKS hq hi hm kx
      exact absurd hm (Nat.not_lt_zero _)
    | succ n ih =>
      intro t c I F jjBYW jjTKS hq hi hm kx
      have b1001 : (0 : Int) ≤ iI t 2 ∧ iI t 2 ≤ 200 := I.1 2
      have b1002 : (0 : Int) ≤ iI t 1 ∧ iI t 1 ≤ 200 := I.1 1
      have b1003 : (0 : Int) ≤ iI t 4 ∧ iI t 4 ≤ 200 := I.1 4
      have b1004 : ((-3) : Int) ≤ iI t 5 ∧ iI t 5 ≤ 255 := I.1 5
      have b1005 : (0 : Int) ≤ iI t 6 ∧ iI t 6 ≤ 100000 := I.1 6
      have b1006 : (0 : Int) ≤ iI t 19 ∧ iI t 19 ≤ 6 := I.1 19
      have b1007 : (0 : Int) ≤ iI t 16 ∧ iI t 16 ≤ 200 := I.1 16
      have b1008 : (0 : Int) ≤ iI t 7 ∧ iI t 7 ≤ 9 := I.1 7
      have hN := jjBYW.2.1
      have hW := jjBYW.2.2
      have hwt := tkw_wd jjTKS
      have hlt := tkw_end jjTKS
      refine z_load_n X (x := c) (show cdA 72 11 = some (.iload_n 1, 1, 0, 0, 0) from rfl) (List.Mem.tail _ (List.Mem.head _)) ?_
      refine z_sipush X (show cdA 72 12 = some (.sipush 200, 3, 0, 0, 200) from rfl) ?_
      refine z_icmp_ge X (t := 58) (show cdA 72 15 = some (.if_icmp .ge 43, 3, 3, 0, 0) from rfl) (by decide) ⟨by first | exact oq_fa4e5087 hi.1 | omega, by first | exact oq_52af2b96 hi.2.1 | omega⟩ (by decide) (fun g1009 => ?_) (fun g1009 => ?_)
      ·
        refine WS_lv (lv := [(0, .ref (A 19)), (1, .int (Int32.ofInt c))]) (List.forall_mem_cons.mpr ⟨(List.Mem.head _), (List.forall_mem_cons.mpr ⟨(List.Mem.tail _ (List.Mem.head _)), (fun q h => absurd h List.not_mem_nil)⟩)⟩) ?_
        exact kx _ c I F jjBYW jjTKS (rx_mv hq rfl (by omega)) (by first | exact ⟨hi.1, hi.2.1, hi.2.2.1, hi.2.2.2.1, hi.2.2.2.2.1, hi.2.2.2.2.2.1, hi.2.2.2.2.2.2.1, hi.2.2.2.2.2.2.2.1, hi.2.2.2.2.2.2.2.2, by omega⟩ | omega)
      ·
        refine z_aload_n X (x := A 19) (show cdA 72 18 = some (.aload_n 0, 1, 0, 0, 0) from rfl) (List.Mem.head _) ?_
        refine s_getR X 19 (show cdA 72 19 = some (.getfield 31, 3, 7, 0, 0) from rfl) (by decide) rfl rfl ?_
        obtain ⟨tx101, q101, hR101, hS101⟩ := GT (101, [111, 114]) (by decide)
        refine w_ldcK X (show vk_R (kOwn k) 101 tx101 q101 (kS0 k) by rw [E.2.1, X.2.1.2.1]; exact hR101) (show decode (kCc k) 22 = .ok (.ldc 101, 2) by rw [X.2.1.1]; decide +kernel) ?_
        refine z_callV X 1 (rm := rmN 131) (As := [.ref q101]) (st := []) (show cdA 72 24 = some (.invokevirtual 76, 3, 131, 0, 0) from rfl) rfl (by decide) rfl (by rw [E.1, E.2.1, E.2.2.1]; exact c10_says3 G SF hS101 (by decide) I jjBYW jjTKS (by first | exact hi.2.2.2.2.2.2.2.2 | omega)) ⟨by rw [E.2.2.2]; exact (show 11 + 1 ≤ (12 + (32 + 3 * (r) + 2)) from oq_3b8c0a4a r), by rw [E.2.2.2]; exact (show 8 + (3 + 11) + 206 ≤ (500 + 45 * (32 + 3 * (r) + 2)) from oq_c9883230 r), by rw [E.2.2.2]; exact Nat.le_refl 0, by rw [E.2.2.2]; exact Nat.le_refl 0⟩ (Nat.le_of_ble_eq_true rfl) (fun vv s1010 hq => ?_) (fun ee s1010 hq => ?_)
        rotate_left
        · obtain ⟨Is1010, Fs1010, JBYW_s1010, JTKS_s1010, e1011, hv, hrs1010, hps1010⟩ := hq; cases hv
        obtain ⟨Is1010, Fs1010, JBYW_s1010, JTKS_s1010, e1011, hv, hrs1010, hps1010⟩ := hq
        cases hv
        have Gs1010 := fm_ts F Fs1010 (by decide) (by decide)
        have JBYW_s1010 : BYW B N s1010 := BYW_fm Fs1010 (by decide) jjBYW
        have JTKS_s1010 : TKS B N s1010 := TKS_fm Fs1010 (by decide) jjTKS
        have ws1010_2 : iI s1010 2 = iI t 2 := fm_i Fs1010 (by decide)
        have ws1010_1 : iI s1010 1 = iI t 1 := fm_i Fs1010 (by decide)
        have ws1010_4 : iI s1010 4 = iI t 4 := fm_i Fs1010 (by decide)
        have ws1010_5 : iI s1010 5 = iI t 5 := fm_i Fs1010 (by decide)
        have ws1010_6 : iI s1010 6 = iI t 6 := fm_i Fs1010 (by decide)
        have ws1010_19 : iI s1010 19 = iI t 19 := fm_i Fs1010 (by decide)
        have ws1010_16 : iI s1010 16 = iI t 16 := fm_i Fs1010 (by decide)
        have ws1010_7 : iI s1010 7 = iI t 7 := fm_i Fs1010 (by decide)
        have dls1010 : DL s1010 = DL t := (DL_fm Fs1010 (by decide) (by decide)).trans rfl
        have hws1010 : (e1011 = 1 ∧ whV B N (iI t 4) = 423) ∨ (e1011 = 0 ∧ whV B N (iI t 4) ≠ 423) := by have h := hps1010; rw [show iI t 4 = iI t 4 by omega, show whL [111, 114] 0 = 423 by decide] at h; exact h
        have hxs1010 : whV B N (iI s1010 4) = whV B N (iI t 4) := by rw [show iI s1010 4 = iI t 4 by omega]
        show WS k 27 [(0, .ref (A 19)), (1, .int (Int32.ofInt c))] [.int (Int32.ofInt e1011)] (Wd A dT s1010) 0 0
        refine z_if_eq X (t := 58) (show cdA 72 27 = some (.ifCond .eq 31, 3, 0, 0, 0) from rfl) (by decide) hrs1010 (fun g1012 => ?_) (fun g1012 => ?_)
        ·
          refine WS_lv (lv := [(0, .ref (A 19)), (1, .int (Int32.ofInt c))]) (List.forall_mem_cons.mpr ⟨(List.Mem.head _), (List.forall_mem_cons.mpr ⟨(List.Mem.tail _ (List.Mem.head _)), (fun q h => absurd h List.not_mem_nil)⟩)⟩) ?_
          exact kx _ c Is1010 Gs1010 JBYW_s1010 JTKS_s1010 (rx_mv hq dls1010 (by omega)) (by first | exact ⟨hi.1, hi.2.1, oq_1aa5be9e ws1010_19 hi.2.2.1, oq_9272904e ws1010_4 hi.2.2.2.1, oq_f0f6d445 hi.2.2.2.2.1 ws1010_4, oq_04f87ec0 ws1010_4 ws1010_16 hi.2.2.2.2.2.1, oq_6f744107 ws1010_4 hi.2.2.2.2.2.2.1, oq_e7b9ecab ws1010_1 ws1010_2 hi.2.2.2.2.2.2.2.1, oq_e7b9ecab ws1010_2 ws1010_4 hi.2.2.2.2.2.2.2.2, oq_ebe345ee g1012 hxs1010 hws1010⟩ | omega)
        ·
          refine z_aload_n X (x := A 19) (show cdA 72 30 = some (.aload_n 0, 1, 0, 0, 0) from rfl) (List.Mem.head _) ?_
          refine s_getR X 19 (show cdA 72 31 = some (.getfield 31, 3, 7, 0, 0) from rfl) (by decide) rfl rfl ?_
          have hcd : whV B N (iI t 4) = 423 := by omega
          have hk3 : iI t 5 = -3 := Classical.byContradiction (fun q => by have := hwt.2 q; omega)
          have ha1 := (hwt.1 hk3).1
          have hg1 := (hwt.1 hk3).2
          refine z_callV X 1 (rm := rmN 129) (As := []) (st := []) (show cdA 72 34 = some (.invokevirtual 85, 3, 129, 0, 0) from rfl) rfl (by decide) rfl (by rw [E.1, E.2.1, E.2.2.1]; exact c10_step3 G Is1010 JBYW_s1010 (by first | exact oq_e7b9ecab ws1010_1 ws1010_2 hi.2.2.2.2.2.2.2.1 | omega)) ⟨by rw [E.2.2.2]; exact (show 7 + 1 ≤ (12 + (32 + 3 * (r) + 2)) from oq_9d2e9ef6 r), by rw [E.2.2.2]; exact (show 8 + (1 + 11) + 121 ≤ (500 + 45 * (32 + 3 * (r) + 2)) from oq_41985971 r), by rw [E.2.2.2]; exact Nat.le_refl 0, by rw [E.2.2.2]; exact Nat.le_refl 0⟩ (Nat.le_of_ble_eq_true rfl) (fun vv s1013 hq => ?_) (fun ee s1013 hq => ?_)
          rotate_left
          · obtain ⟨Is1013, Fs1013, JBYW_s1013, JTKS_s1013, hv, hps1013⟩ := hq; cases hv
          obtain ⟨Is1013, Fs1013, JBYW_s1013, JTKS_s1013, hv, hps1013⟩ := hq
          cases hv
          have Gs1013 := fm_ts Gs1010 Fs1013 (by decide) (by decide)
          have JBYW_s1013 : BYW B N s1013 := BYW_fm Fs1013 (by decide) JBYW_s1010
          have b1015 : (0 : Int) ≤ iI s1013 2 ∧ iI s1013 2 ≤ 200 := Is1013.1 2
          have ws1013_1 : iI s1013 1 = iI s1010 1 := fm_i Fs1013 (by decide)
          have b1016 : (0 : Int) ≤ iI s1013 4 ∧ iI s1013 4 ≤ 200 := Is1013.1 4
          have b1017 : ((-3) : Int) ≤ iI s1013 5 ∧ iI s1013 5 ≤ 255 := Is1013.1 5
          have b1018 : (0 : Int) ≤ iI s1013 6 ∧ iI s1013 6 ≤ 100000 := Is1013.1 6
          have ws1013_19 : iI s1013 19 = iI s1010 19 := fm_i Fs1013 (by decide)
          have ws1013_16 : iI s1013 16 = iI s1010 16 := fm_i Fs1013 (by decide)
          have ws1013_7 : iI s1013 7 = iI s1010 7 := fm_i Fs1013 (by decide)
          have dls1013 : DL s1013 = DL t := (DL_fm Fs1013 (by decide) (by decide)).trans dls1010
          show WS k 37 [(0, .ref (A 19)), (1, .int (Int32.ofInt c))] [] (Wd A dT s1013) 0 0
          have hs9 : iI s1013 4 = sk B N (wdE B N (iI t 4)) := by rw [hps1013.2.2.1, show iI s1010 2 = wdE B N (iI t 4) by omega]
          refine z_aload_n X (x := A 19) (show cdA 72 37 = some (.aload_n 0, 1, 0, 0, 0) from rfl) (List.Mem.head _) ?_
          refine z_callV X 19 (rm := (rkR (32 + 3 * (r) + 1))) (As := []) (st := []) (show cdA 72 38 = some (.invokevirtual 98, 3, 73, 0, 0) from rfl) rfl (by decide) rfl (by rw [E.1, E.2.1, E.2.2.1]; exact hB Is1013 JBYW_s1013 JTKS_s1013 (by first | exact hps1013.1 | omega) (by first | exact hps1013.2.1 | omega) (by first | exact oq_f4f80c46 p2 ws1013_19 hi.2.2.1 ws1010_19 | omega) (by first | exact oq_957188f6 ws1013_16 hps1013.2.2.2 ws1010_16 ws1010_2 hi.2.2.2.2.2.2.2.2 hi.2.2.2.2.2.1 p3 | omega)) ⟨by rw [E.2.2.2]; exact (show (12 + (32 + 3 * (r) + 1)) + 1 ≤ (12 + (32 + 3 * (r) + 2)) from oq_23399e95 r), by rw [E.2.2.2]; exact (show 8 + (2 + 11) + (500 + 45 * (32 + 3 * (r) + 1)) ≤ (500 + 45 * (32 + 3 * (r) + 2)) from oq_c23d4411 r), by rw [E.2.2.2]; exact Nat.le_refl 0, by rw [E.2.2.2]; exact Nat.le_refl 0⟩ (Nat.le_of_ble_eq_true rfl) (fun vv s1019 hq => ?_) (fun ee s1019 hq => ?_)
          rotate_left
          · obtain ⟨Is1019, Fs1019, JBYW_s1019, JTKS_s1019, e1020, hv, hrs1019, hps1019⟩ := hq; cases hv
          obtain ⟨Is1019, Fs1019, JBYW_s1019, JTKS_s1019, e1020, hv, hrs1019, hps1019⟩ := hq
          cases hv
          have Gs1019 := fm_ts Gs1013 Fs1019 (by decide) (by decide)
          have JBYW_s1019 : BYW B N s1019 := BYW_fm Fs1019 (by decide) JBYW_s1013
          have b1021 : (0 : Int) ≤ iI s1019 2 ∧ iI s1019 2 ≤ 200 := Is1019.1 2
          have ws1019_1 : iI s1019 1 = iI s1013 1 := fm_i Fs1019 (by decide)
          have b1022 : (0 : Int) ≤ iI s1019 4 ∧ iI s1019 4 ≤ 200 := Is1019.1 4
          have b1023 : ((-3) : Int) ≤ iI s1019 5 ∧ iI s1019 5 ≤ 255 := Is1019.1 5
          have b1024 : (0 : Int) ≤ iI s1019 6 ∧ iI s1019 6 ≤ 100000 := Is1019.1 6
          have b1025 : (0 : Int) ≤ iI s1019 19 ∧ iI s1019 19 ≤ 6 := Is1019.1 19
          have b1026 : (0 : Int) ≤ iI s1019 16 ∧ iI s1019 16 ≤ 200 := Is1019.1 16
          have b1027 : (0 : Int) ≤ iI s1019 7 ∧ iI s1019 7 ≤ 9 := Is1019.1 7
          show WS k 41 [(0, .ref (A 19)), (1, .int (Int32.ofInt c))] [.int (Int32.ofInt e1020)] (Wd A dT s1019) 0 0
          refine z_if_ne X (t := 46) (show cdA 72 41 = some (.ifCond .ne 5, 3, 1, 0, 0) from rfl) (by decide) hrs1019 (fun g1028 => ?_) (fun g1028 => ?_)
          ·
            refine z_aload_n X (x := A 19) (show cdA 72 46 = some (.aload_n 0, 1, 0, 0, 0) from rfl) (List.Mem.head _) ?_
            refine z_bipush X (show cdA 72 47 = some (.bipush (-19), 2, 0, 0, (-19)) from rfl) ?_
            refine z_callV X 19 (rm := rmN 82) (As := [.int (Int32.ofInt (-19))]) (st := []) (show cdA 72 49 = some (.invokevirtual 103, 3, 82, 0, 0) from rfl) rfl (by decide) rfl (by rw [E.1, E.2.1, E.2.2.1]; exact c7_put3 G Is1019 (by first | exact ⟨by decide, by decide⟩ | omega) (by omega)) ⟨by rw [E.2.2.2]; exact (show 6 + 1 ≤ (12 + (32 + 3 * (r) + 2)) from oq_bd1a6d33 r), by rw [E.2.2.2]; exact (show 8 + (2 + 11) + 100 ≤ (500 + 45 * (32 + 3 * (r) + 2)) from oq_1addf0d0 r), by rw [E.2.2.2]; exact Nat.le_refl 0, by rw [E.2.2.2]; exact Nat.le_refl 0⟩ (Nat.le_of_ble_eq_true rfl) (fun vv s1029 hq => ?_) (fun ee s1029 hq => ?_)
            rotate_left
            · obtain ⟨Is1029, Fs1029, hv, hps1029⟩ := hq; cases hv
            obtain ⟨Is1029, Fs1029, hv, hps1029⟩ := hq
            cases hv
            have Gs1029 := fm_ts Gs1019 Fs1029 (by decide) (by decide)
            have JBYW_s1029 : BYW B N s1029 := BYW_fm Fs1029 (by decide) JBYW_s1019
            have JTKS_s1029 : TKS B N s1029 := TKS_fm Fs1029 (by decide) JTKS_s1019
            have ws1029_2 : iI s1029 2 = iI s1019 2 := fm_i Fs1029 (by decide)
            have ws1029_1 : iI s1029 1 = iI s1019 1 := fm_i Fs1029 (by decide)
            have ws1029_4 : iI s1029 4 = iI s1019 4 := fm_i Fs1029 (by decide)
            have ws1029_5 : iI s1029 5 = iI s1019 5 := fm_i Fs1029 (by decide)
            have ws1029_6 : iI s1029 6 = iI s1019 6 := fm_i Fs1029 (by decide)
            have ws1029_19 : iI s1029 19 = iI s1019 19 := fm_i Fs1029 (by decide)
            have b1031 : (0 : Int) ≤ iI s1029 16 ∧ iI s1029 16 ≤ 200 := Is1029.1 16
            have ws1029_7 : iI s1029 7 = iI s1019 7 := fm_i Fs1029 (by decide)
            have dls1029 : DL s1029 = DL s1019 ++ [(-19)] := by rw [hps1029.2]
            show WS k 52 [(0, .ref (A 19)), (1, .int (Int32.ofInt c))] [] (Wd A dT s1029) 0 0
            refine z_inc X (x := c) (lv' := [(1, .int (Int32.ofInt (c + 1))), (0, .ref (A 19))]) (show cdA 72 52 = some (.iinc 1 1, 3, 0, 0, 0) from rfl) (by decide) (List.Mem.tail _ (List.Mem.head _)) (fun _ h => h) ?_
            refine z_goto X (t := 11) (show cdA 72 55 = some (.goto (-44), 3, 0, 0, 0) from rfl) (by decide) ?_
            refine WS_lv (lv := [(0, .ref (A 19)), (1, .int (Int32.ofInt (c + 1)))]) (List.forall_mem_cons.mpr ⟨(List.Mem.tail _ (List.Mem.head _)), (List.forall_mem_cons.mpr ⟨(List.Mem.head _), (fun q h => absurd h List.not_mem_nil)⟩)⟩) ?_
            exact ih _ (c + 1) Is1029 Gs1029 JBYW_s1029 JTKS_s1029 (rx_up (q1 := sk B N (wdE B N (iI t 4))) hq (dls1013) (by have h := hps1019.2.2.2; rw [show iI s1013 4 = sk B N (wdE B N (iI t 4)) by omega, show iI s1013 19 = iI s 19 by omega] at h; exact h) (by omega) dls1029 (by omega) (fun a r r1 h z h2 => re_go hcd h z h2)) (by first | exact ⟨oq_54f49eb5 hi.1, oq_0cb6ab8a g1009, oq_98ac5764 ws1029_19 g1028 hps1019.1 ws1013_19 ws1010_19 hi.2.2.1, oq_614567b2 ws1029_4 g1028 hps1019.1 hps1013.2.2.2 ws1010_2 hi.2.2.2.2.2.2.2.2 hi.2.2.2.1, oq_a2786552 ws1029_4 g1028 hps1019.1, by omega, by omega, oq_e7b9ecab ws1029_1 ws1029_2 hps1019.2.1, oq_e7b9ecab ws1029_2 ws1029_4 hps1019.2.2.1⟩ | omega) (by first | exact qk_me hm (by decide) (oq_1ab01402 g1009) | omega) kx
          ·
            refine z_const X (show cdA 72 44 = some (.iconst 0, 1, 0, 0, 0) from rfl) ?_
            have hRD : RDc B N 8 (iI s 4) (iI s 19) (DL s) s1019 0 := rx_bad hq (by have h := hps1019.2.2.2; rw [show iI s1013 4 = sk B N (wdE B N (iI t 4)) by omega, show iI s1013 19 = iI s 19 by omega] at h; exact h) (by omega) (by omega) (fun a r h z => re_bad hcd h z)
            exact w_iret X.1 q hRt (nar_ret (by first | exact Or.inl (by decide) | omega)) (ax_d X (show cdA 72 45 = some (.ireturn, 1, 0, 0, 0) from rfl)) (Nat.zero_le _) (Nat.zero_le _) ⟨_, rfl, Is1019, Gs1019, JBYW_s1019, JTKS_s1019, 0, rfl, (by decide), ⟨rd_post hRD rfl (by first | exact oq_f8a2cf0e hi.2.2.2.2.1 hi.2.2.2.1 | omega) (by first | exact b7.1 | omega) (by first | exact b1026.1 | omega) (fun h9 => absurd rfl h9), by first | exact hps1019.2.1 | omega, by first | exact hps1019.2.2.1 | omega, hRD⟩⟩
  refine z_aload_n X (x := A 19) (show cdA 72 0 = some (.aload_n 0, 1, 0, 0, 0) from rfl) (List.Mem.head _) ?_
  refine z_callV X 19 (rm := (rkR (32 + 3 * (r) + 1))) (As := []) (st := []) (show cdA 72 1 = some (.invokevirtual 98, 3, 73, 0, 0) from rfl) rfl (by decide) rfl (by rw [E.1, E.2.1, E.2.2.1]; exact hB I jBYW jTKS (by first | exact p0 | omega) (by first | exact p1 | omega) (by first | exact p2 | omega) (by first | exact p3 | omega)) ⟨by rw [E.2.2.2]; exact (show (12 + (32 + 3 * (r) + 1)) + 1 ≤ (12 + (32 + 3 * (r) + 2)) from oq_23399e95 r), by rw [E.2.2.2]; exact (show 8 + (2 + 11) + (500 + 45 * (32 + 3 * (r) + 1)) ≤ (500 + 45 * (32 + 3 * (r) + 2)) from oq_c23d4411 r), by rw [E.2.2.2]; exact Nat.le_refl 0, by rw [E.2.2.2]; exact Nat.le_refl 0⟩ (Nat.le_of_ble_eq_true rfl) (fun vv s9 hq => ?_) (fun ee s9 hq => ?_)
  rotate_left
  · obtain ⟨Is9, Fs9, JBYW_s9, JTKS_s9, e10, hv, hrs9, hps9⟩ := hq; cases hv
  obtain ⟨Is9, Fs9, JBYW_s9, JTKS_s9, e10, hv, hrs9, hps9⟩ := hq
  cases hv
  have Gs9 := fm_ts F Fs9 (by decide) (by decide)
  have JBYW_s9 : BYW B N s9 := BYW_fm Fs9 (by decide) jBYW
  have b11 : (0 : Int) ≤ iI s9 2 ∧ iI s9 2 ≤ 200 := Is9.1 2
  have ws9_1 : iI s9 1 = iI s 1 := fm_i Fs9 (by decide)
  have b12 : (0 : Int) ≤ iI s9 4 ∧ iI s9 4 ≤ 200 := Is9.1 4
  have b13 : ((-3) : Int) ≤ iI s9 5 ∧ iI s9 5 ≤ 255 := Is9.1 5
  have b14 : (0 : Int) ≤ iI s9 6 ∧ iI s9 6 ≤ 100000 := Is9.1 6
  have b15 : (0 : Int) ≤ iI s9 19 ∧ iI s9 19 ≤ 6 := Is9.1 19
  have b16 : (0 : Int) ≤ iI s9 16 ∧ iI s9 16 ≤ 200 := Is9.1 16
  have b17 : (0 : Int) ≤ iI s9 7 ∧ iI s9 7 ≤ 9 := Is9.1 7
  show WS k 4 [(0, .ref (A 19))] [.int (Int32.ofInt e10)] (Wd A dT s9) 0 0
  refine z_if_ne X (t := 9) (show cdA 72 4 = some (.ifCond .ne 5, 3, 1, 0, 0) from rfl) (by decide) hrs9 (fun g18 => ?_) (fun g18 => ?_)
  ·
    refine z_const X (show cdA 72 9 = some (.iconst 0, 1, 0, 0, 0) from rfl) ?_
    refine z_store_n X (lv' := [(1, .int (Int32.ofInt 0)), (0, .ref (A 19))]) (show cdA 72 10 = some (.istore_n 1, 1, 0, 0, 0) from rfl) (by decide) (fun _ h => h) ?_
    refine WS_lv (lv := [(0, .ref (A 19)), (1, .int (Int32.ofInt 0))]) (List.forall_mem_cons.mpr ⟨(List.Mem.tail _ (List.Mem.head _)), (List.forall_mem_cons.mpr ⟨(List.Mem.head _), (fun q h => absurd h List.not_mem_nil)⟩)⟩) ?_
    refine L11 ((200 - 0 : Int).toNat + 1) s9 0 Is9 Gs9 JBYW_s9 JTKS_s9 (rx_0 hps9.2.2.2 (by omega) (fun r r1 h z h2 => we_go h z h2)) (by first | exact ⟨by decide, by decide, oq_6259e910 g18 hps9.1, oq_af044290 g18 hps9.1, oq_0f66faba g18 hps9.1, oq_3cd265a3 g18 hps9.1, oq_c32860b4 g18 hps9.1, hps9.2.1, hps9.2.2.1⟩ | omega) (Nat.lt_succ_self _) ?_
    intro s19 x20 Is19 Fs19 JBYW_s19 JTKS_s19 Qs19 hs19
    have b21 : (0 : Int) ≤ iI s19 2 ∧ iI s19 2 ≤ 200 := Is19.1 2
    have b22 : (0 : Int) ≤ iI s19 1 ∧ iI s19 1 ≤ 200 := Is19.1 1
    have b23 : (0 : Int) ≤ iI s19 4 ∧ iI s19 4 ≤ 200 := Is19.1 4
    have b24 : ((-3) : Int) ≤ iI s19 5 ∧ iI s19 5 ≤ 255 := Is19.1 5
    have b25 : (0 : Int) ≤ iI s19 6 ∧ iI s19 6 ≤ 100000 := Is19.1 6
    have b26 : (0 : Int) ≤ iI s19 19 ∧ iI s19 19 ≤ 6 := Is19.1 19
    have b27 : (0 : Int) ≤ iI s19 16 ∧ iI s19 16 ≤ 200 := Is19.1 16
    have b28 : (0 : Int) ≤ iI s19 7 ∧ iI s19 7 ≤ 9 := Is19.1 7
    have hNs19 := JBYW_s19.2.1
    have hWs19 := JBYW_s19.2.2
    refine z_const X (show cdA 72 58 = some (.iconst 1, 1, 0, 0, 0) from rfl) ?_
    have hRD : RDc B N 8 (iI s 4) (iI s 19) (DL s) s19 1 := rx_end Qs19 (fun a => re_end (by omega))
    exact w_iret X.1 q hRt (nar_ret (by first | exact Or.inr (by decide) | omega)) (ax_d X (show cdA 72 59 = some (.ireturn, 1, 0, 0, 0) from rfl)) (Nat.zero_le _) (Nat.zero_le _) ⟨_, rfl, Is19, Fs19, JBYW_s19, JTKS_s19, 1, rfl, (by decide), ⟨rd_post hRD rfl (by first | exact oq_f8a2cf0e hs19.2.2.2.2.1 hs19.2.2.2.1 | omega) (by first | exact b7.1 | omega) (by first | exact b27.1 | omega) (fun h9 => by first | exact hs19.2.2.1 | omega), by first | exact hs19.2.2.2.2.2.2.2.1 | omega, by first | exact hs19.2.2.2.2.2.2.2.2.1 | omega, hRD⟩⟩
  ·
    refine z_const X (show cdA 72 7 = some (.iconst 0, 1, 0, 0, 0) from rfl) ?_
    have hRD : RDc B N 8 (iI s 4) (iI s 19) (DL s) s9 0 := rd_bad hps9.2.2.2 (by omega) (by omega) (fun r h z => we_bad h z)
    exact w_iret X.1 q hRt (nar_ret (by first | exact Or.inl (by decide) | omega)) (ax_d X (show cdA 72 8 = some (.ireturn, 1, 0, 0, 0) from rfl)) (Nat.zero_le _) (Nat.zero_le _) ⟨_, rfl, Is9, Gs9, JBYW_s9, JTKS_s9, 0, rfl, (by decide), ⟨rd_post hRD rfl (by omega) (by first | exact b7.1 | omega) (by first | exact b16.1 | omega) (fun h9 => absurd rfl h9), by first | exact hps9.2.1 | omega, by first | exact hps9.2.2.1 | omega, hRD⟩⟩
theorem c7_eithr3 (G : GX l s0 D tys a0 dT) {B : Nat → Int} {N : Int} (SF : SF0 s0) (GT : TXw0 s0) (r : Nat) : (∀ {s : PS} , Bd s → BYW B N s → TKS B N s → (iI s 2 ≤ iI s 1) → (iI s 4 ≤ iI s 2) → (6 - iI s 19 ≤ ((r : Nat) : Int)) → (iI s 16 ≤ iI s 4) → CT l s0 D A dT 74 (rkR (32 + 3 * (r))) [.ref (A 19)] s (fun o t => Bd t ∧ Fm [2, 4, 6, 5, 7, 8, 19, 16] [18] s t ∧ BYW B N t ∧ TKS B N t ∧ ∃ e, o = .inl (some (.int (Int32.ofInt e))) ∧ rng e ∧ ((e = 0 ∨ (e = 1 ∧ iI t 19 = iI s 19 ∧ iI s 4 ≤ iI t 4 ∧ iI t 4 ≤ N ∧ iI t 16 + iI s 4 ≤ iI s 16 + iI t 4)) ∧ iI t 2 ≤ iI t 1 ∧ iI t 4 ≤ iI t 2 ∧ RDc B N 5 (iI s 4) (iI s 19) (DL s) t e))) ∧ (∀ {s : PS} , Bd s → BYW B N s → TKS B N s → (iI s 2 ≤ iI s 1) → (iI s 4 ≤ iI s 2) → (6 - iI s 19 ≤ ((r : Nat) : Int)) → (iI s 16 ≤ iI s 4) → CT l s0 D A dT 73 (rkR (32 + 3 * (r) + 1)) [.ref (A 19)] s (fun o t => Bd t ∧ Fm [2, 4, 6, 5, 7, 8, 19, 16] [18] s t ∧ BYW B N t ∧ TKS B N t ∧ ∃ e, o = .inl (some (.int (Int32.ofInt e))) ∧ rng e ∧ ((e = 0 ∨ (e = 1 ∧ iI t 19 = iI s 19 ∧ iI s 4 ≤ iI t 4 ∧ iI t 4 ≤ N ∧ iI t 16 + iI s 4 ≤ iI s 16 + iI t 4)) ∧ iI t 2 ≤ iI t 1 ∧ iI t 4 ≤ iI t 2 ∧ RDc B N 6 (iI s 4) (iI s 19) (DL s) t e))) ∧ (∀ {s : PS} , Bd s → BYW B N s → TKS B N s → (iI s 2 ≤ iI s 1) → (iI s 4 ≤ iI s 2) → (6 - iI s 19 ≤ ((r : Nat) : Int)) → (iI s 16 ≤ iI s 4) → CT l s0 D A dT 72 (rkR (32 + 3 * (r) + 2)) [.ref (A 19)] s (fun o t => Bd t ∧ Fm [2, 4, 6, 5, 7, 8, 19, 16] [18] s t ∧ BYW B N t ∧ TKS B N t ∧ ∃ e, o = .inl (some (.int (Int32.ofInt e))) ∧ rng e ∧ ((e = 0 ∨ (e = 1 ∧ iI t 19 = iI s 19 ∧ iI s 4 ≤ iI t 4 ∧ iI t 4 ≤ N ∧ iI t 16 + iI s 4 ≤ iI s 16 + iI t 4)) ∧ iI t 2 ≤ iI t 1 ∧ iI t 4 ≤ iI t 2 ∧ RDc B N 8 (iI s 4) (iI s 19) (DL s) t e))) := by
  induction r with
  | zero =>
    have hT : ∀ {s : PS} , Bd s → BYW B N s → TKS B N s → (iI s 2 ≤ iI s 1) → (iI s 4 ≤ iI s 2) → (6 - iI s 19 ≤ ((0 : Nat) : Int)) → (iI s 16 ≤ iI s 4) → CT l s0 D A dT 74 (rkR (32 + 3 * (0))) [.ref (A 19)] s (fun o t => Bd t ∧ Fm [2, 4, 6, 5, 7, 8, 19, 16] [18] s t ∧ BYW B N t ∧ TKS B N t ∧ ∃ e, o = .inl (some (.int (Int32.ofInt e))) ∧ rng e ∧ ((e = 0 ∨ (e = 1 ∧ iI t 19 = iI s 19 ∧ iI s 4 ≤ iI t 4 ∧ iI t 4 ≤ N ∧ iI t 16 + iI s 4 ≤ iI s 16 + iI t 4)) ∧ iI t 2 ≤ iI t 1 ∧ iI t 4 ≤ iI t 2 ∧ RDc B N 5 (iI s 4) (iI s 19) (DL s) t e)) := fun {_} I j1 j2 p0 p1 p2 p3 => c7_test03 G SF GT I j1 j2 p0 p1 p2 p3
    have hB : ∀ {s : PS} , Bd s → BYW B N s → TKS B N s → (iI s 2 ≤ iI s 1) → (iI s 4 ≤ iI s 2) → (6 - iI s 19 ≤ ((0 : Nat) : Int)) → (iI s 16 ≤ iI s 4) → CT l s0 D A dT 73 (rkR (32 + 3 * (0) + 1)) [.ref (A 19)] s (fun o t => Bd t ∧ Fm [2, 4, 6, 5, 7, 8, 19, 16] [18] s t ∧ BYW B N t ∧ TKS B N t ∧ ∃ e, o = .inl (some (.int (Int32.ofInt e))) ∧ rng e ∧ ((e = 0 ∨ (e = 1 ∧ iI t 19 = iI s 19 ∧ iI s 4 ≤ iI t 4 ∧ iI t 4 ≤ N ∧ iI t 16 + iI s 4 ≤ iI s 16 + iI t 4)) ∧ iI t 2 ≤ iI t 1 ∧ iI t 4 ≤ iI t 2 ∧ RDc B N 6 (iI s 4) (iI s 19) (DL s) t e)) := fun {_} I j1 j2 p0 p1 p2 p3 => c7_bothS3 (r := 0) G SF GT hT I j1 j2 p0 p1 p2 p3
    exact ⟨hT, hB, fun {_} I j1 j2 p0 p1 p2 p3 => c7_eithS3 (r := 0) G SF GT hB I j1 j2 p0 p1 p2 p3⟩
  | succ r ih =>
    have hT : ∀ {s : PS} , Bd s → BYW B N s → TKS B N s → (iI s 2 ≤ iI s 1) → (iI s 4 ≤ iI s 2) → (6 - iI s 19 ≤ ((r + 1 : Nat) : Int)) → (iI s 16 ≤ iI s 4) → CT l s0 D A dT 74 (rkR (32 + 3 * (r + 1))) [.ref (A 19)] s (fun o t => Bd t ∧ Fm [2, 4, 6, 5, 7, 8, 19, 16] [18] s t ∧ BYW B N t ∧ TKS B N t ∧ ∃ e, o = .inl (some (.int (Int32.ofInt e))) ∧ rng e ∧ ((e = 0 ∨ (e = 1 ∧ iI t 19 = iI s 19 ∧ iI s 4 ≤ iI t 4 ∧ iI t 4 ≤ N ∧ iI t 16 + iI s 4 ≤ iI s 16 + iI t 4)) ∧ iI t 2 ≤ iI t 1 ∧ iI t 4 ≤ iI t 2 ∧ RDc B N 5 (iI s 4) (iI s 19) (DL s) t e)) := fun {_} I j1 j2 p0 p1 p2 p3 => c7_testS3 (r := r) G SF GT ih.1 ih.2.2 I j1 j2 p0 p1 p2 p3
    have hB : ∀ {s : PS} , Bd s → BYW B N s → TKS B N s → (iI s 2 ≤ iI s 1) → (iI s 4 ≤ iI s 2) → (6 - iI s 19 ≤ ((r + 1 : Nat) : Int)) → (iI s 16 ≤ iI s 4) → CT l s0 D A dT 73 (rkR (32 + 3 * (r + 1) + 1)) [.ref (A 19)] s (fun o t => Bd t ∧ Fm [2, 4, 6, 5, 7, 8, 19, 16] [18] s t ∧ BYW B N t ∧ TKS B N t ∧ ∃ e, o = .inl (some (.int (Int32.ofInt e))) ∧ rng e ∧ ((e = 0 ∨ (e = 1 ∧ iI t 19 = iI s 19 ∧ iI s 4 ≤ iI t 4 ∧ iI t 4 ≤ N ∧ iI t 16 + iI s 4 ≤ iI s 16 + iI t 4)) ∧ iI t 2 ≤ iI t 1 ∧ iI t 4 ≤ iI t 2 ∧ RDc B N 6 (iI s 4) (iI s 19) (DL s) t e)) := fun {_} I j1 j2 p0 p1 p2 p3 => c7_bothS3 (r := r + 1) G SF GT hT I j1 j2 p0 p1 p2 p3
    exact ⟨hT, hB, fun {_} I j1 j2 p0 p1 p2 p3 => c7_eithS3 (r := r + 1) G SF GT hB I j1 j2 p0 p1 p2 p3⟩
end M87h
