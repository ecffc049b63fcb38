theorem oq_ec2e99bd {a0 a1 : Int} (h0 : a0 = a1) (h1 : a1 ≤ 200) : a0 ≤ 2147483647 := by omega
theorem oq_a2afda0c {a0 a1 a2 : Int} (h0 : a0 < a1) (h1 : a1 = a2) (h2 : a2 ≤ 200) : a0 < 200 := by omega
theorem oq_7290672e {a0 a1 a2 : Int} (h0 : a0 < a1) (h1 : a1 = a2) (h2 : a2 ≤ 200) : (a0 : Int).toNat < 200 := by omega
theorem oq_44170929 {a0 a1 a2 : Int} (h0 : a0 < a1) (h1 : a1 = a2) (h2 : a2 ≤ 200) : (a0 + 1) ≤ 200 := by omega
theorem oq_1d5bb5f6 {a0 a1 a2 : Int} (h0 : a0 < a1) (h1 : a1 = a2) (h2 : a2 ≤ 200) : 0 < (200 - a0) := by omega
theorem oq_e6dd31ff {a0 a1 a2 : Int} (h0 : a0 ≠ 0) (h1 : ((a0 = 1 ∧ (0 ≤ a1 ∧ a1 ≤ a2)) ∨ (a0 = 0 ∧ (a1 < 0 ∨ a2 < a1)))) : 0 ≤ a1 := by omega
theorem oq_eb53b30f {a0 a1 a2 : Int} (h0 : a0 ≠ 0) (h1 : ((a0 = 1 ∧ (0 ≤ a1 ∧ a1 ≤ a2)) ∨ (a0 = 0 ∧ (a1 < 0 ∨ a2 < a1)))) (h2 : a2 ≤ 200) : a1 ≤ 200 := by omega
theorem oq_d1c86cea {a0 a1 a2 a3 a4 : Int} (h0 : a0 ≤ 200) (h1 : 0 ≤ a0) (h2 : a0 = a1) (h3 : a2 ≠ 0) (h4 : ((a2 = 1 ∧ (0 ≤ a1 ∧ a1 ≤ a3)) ∨ (a2 = 0 ∧ (a1 < 0 ∨ a3 < a1)))) (h5 : a3 = a4) : (0 ≤ a1 ∧ (a1 ≤ a4 ∧ a1 ≤ 200)) := by omega
theorem oq_ee6d0677 {a0 a1 a2 a3 a4 a5 a6 a7 a8 : Int} (h0 : a0 = a1) (h1 : a1 = a2) (h2 : a2 = a3) (h3 : a3 = a4) (h4 : a4 = a5) (h5 : a5 = a6) (h6 : 0 ≤ a6) (h7 : ((0 = 1 ∧ (a7 = 0 ∧ (a6 = 1 ∧ a8 = 1))) ∨ ((0 = 0 ∨ a7 ≠ 0) ∧ (a6 = a7 ∧ ((a8 = 0 ∧ a7 = 0) ∨ (a8 = 1 ∧ a7 ≠ 0)))))) (h8 : a7 = 0) : a0 = 0 := by omega
theorem oq_a634ad6e {a0 : Int} (h0 : a0 ≤ 9) : (a0 - 10) < 0 := by omega
theorem oq_01116dcd {a0 a1 a2 a3 a4 : Int} (h0 : a0 ≠ 0) (h1 : ((0 = 1 ∧ (a1 = 0 ∧ (a2 = 1 ∧ a0 = 1))) ∨ ((0 = 0 ∨ a1 ≠ 0) ∧ (a2 = a1 ∧ ((a0 = 0 ∧ a1 = 0) ∨ (a0 = 1 ∧ a1 ≠ 0)))))) (h2 : a1 = 0) : (a3 < 0 ∨ a4 < a3) := by omega
theorem oq_df0d149a {a0 a1 a2 : Int} (h0 : a0 ≠ 0) (h1 : ((0 = 1 ∧ (a1 = 0 ∧ (a2 = 1 ∧ a0 = 1))) ∨ ((0 = 0 ∨ a1 ≠ 0) ∧ (a2 = a1 ∧ ((a0 = 0 ∧ a1 = 0) ∨ (a0 = 1 ∧ a1 ≠ 0)))))) (h2 : a1 = 0) : a2 = 1 := by omega
theorem oq_fd1fe449 {a0 a1 a2 a3 : Int} (h0 : a0 = 0) (h1 : ((1 = 1 ∧ (a1 = 0 ∧ (a2 = 1 ∧ a0 = 1))) ∨ ((1 = 0 ∨ a1 ≠ 0) ∧ (a2 = a1 ∧ ((a0 = 0 ∧ a1 = 0) ∨ (a0 = 1 ∧ a1 ≠ 0)))))) (h2 : a1 = 0) : a3 ≤ 200 := by omega
theorem oq_607845ef {a0 a1 a2 a3 a4 : Int} (h0 : a0 = 0) (h1 : ((1 = 1 ∧ (a1 = 0 ∧ (a2 = 1 ∧ a0 = 1))) ∨ ((1 = 0 ∨ a1 ≠ 0) ∧ (a2 = a1 ∧ ((a0 = 0 ∧ a1 = 0) ∨ (a0 = 1 ∧ a1 ≠ 0)))))) (h2 : a1 = 0) : (0 ≤ a3 ∧ (a3 ≤ a4 ∧ a3 ≤ 200)) := by omega
theorem oq_1f30bbcd {a0 a1 a2 a3 : Int} (h0 : a0 = 0) (h1 : ((1 = 1 ∧ (a1 = 0 ∧ (a2 = 1 ∧ a0 = 1))) ∨ ((1 = 0 ∨ a1 ≠ 0) ∧ (a2 = a1 ∧ ((a0 = 0 ∧ a1 = 0) ∨ (a0 = 1 ∧ a1 ≠ 0)))))) (h2 : a1 = 0) : a3 ≤ 203 := by omega
theorem oq_bd3ae47d {a0 a1 a2 a3 a4 a5 : Int} (h0 : a0 = 0) (h1 : ((1 = 1 ∧ (a1 = 0 ∧ (a2 = 1 ∧ a0 = 1))) ∨ ((1 = 0 ∨ a1 ≠ 0) ∧ (a2 = a1 ∧ ((a0 = 0 ∧ a1 = 0) ∨ (a0 = 1 ∧ a1 ≠ 0)))))) (h2 : a1 = 0) : (a3 = 0 → a4 ≤ a5) := by omega
theorem oq_12537a21 {a0 a1 a2 a3 a4 a5 a6 a7 a8 : Int} (h0 : a0 = a1) (h1 : a1 = a2) (h2 : a2 = a3) (h3 : a3 = a4) (h4 : a4 = a5) (h5 : a5 = a6) (h6 : a7 = 0) (h7 : 0 ≤ a6) (h8 : ((1 = 1 ∧ (a8 = 0 ∧ (a6 = 1 ∧ a7 = 1))) ∨ ((1 = 0 ∨ a8 ≠ 0) ∧ (a6 = a8 ∧ ((a7 = 0 ∧ a8 = 0) ∨ (a7 = 1 ∧ a8 ≠ 0)))))) (h9 : a8 = 0) : a0 = 0 := by omega
theorem oq_5e46c7aa {a0 a1 a2 a3 : Int} (h0 : a0 = 0) (h1 : ((a0 = 1 ∧ (0 ≤ a1 ∧ a1 ≤ a2)) ∨ (a0 = 0 ∧ (a1 < 0 ∨ a2 < a1)))) (h2 : a2 = a3) : (a1 < 0 ∨ a3 < a1) := by omega
theorem oq_a959501e {a0 a1 a2 a3 a4 : Int} (h0 : a0 = a1) (h1 : a2 = a3) (h2 : a3 = a4) (h3 : a4 = a0) : a2 = a1 := by omega
/-! What the rules' last load comes to: the same in class and model -/
def VLw (c : List Int) : Prop := ∀ nm : Nat → Int32, ∃ v, VLm nm v c
def WFR (r : Rd) : Prop := r.1 = 0 → VLw r.2.1
theorem wf_bnd {r : Rd} {g : List Int → Int → Rd} (h1 : WFR r) (h2 : ∀ c q, VLw c → WFR (g c q)) : WFR (bnd r g) := by
  unfold bnd
  by_cases e : r.1 = 0
  · rw [if_pos e]; exact h2 _ _ (h1 e)
  · rw [if_neg e]; exact h1
theorem wf_if {p : Prop} [Decidable p] {a b : Rd} (h1 : p → WFR a) (h2 : ¬ p → WFR b) : WFR (if p then a else b) := by
  by_cases e : p
  · rw [if_pos e]; exact h1 e
  · rw [if_neg e]; exact h2 e
theorem wf_no {k : Int} {c : List Int} {q : Int} (h : k ≠ 0) : WFR (k, c, q) := fun z => absurd z h
theorem wf_ok {k : Int} {c : List Int} {q : Int} (h : VLw c) : WFR (k, c, q) := fun _ => h
theorem vlw_two {c d : List Int} {o : Int} (h1 : VLw c) (h2 : VLw d) (ho : o < -8) : VLw (c ++ d ++ [o]) := fun nm => by
  obtain ⟨v, hv⟩ := h1 nm
  obtain ⟨w, hw⟩ := h2 nm
  exact ⟨_, vl_two hv hw ho⟩
theorem vlw_not {c : List Int} (h1 : VLw c) : VLw (c ++ [-8]) := fun nm => by
  obtain ⟨v, hv⟩ := h1 nm
  exact ⟨_, vl_not hv⟩
theorem nmc_r {B : Nat → Int} {N p : Int} (h : nmC B N p ≠ 0) : -8 < nmC B N p ∧ nmC B N p < 0 := by
  have z : nmC B N p = 0 ∨ (-8 < nmC B N p ∧ nmC B N p < 0) := by
    unfold nmC
    (repeat' split) <;> omega
  exact z.elim (fun q => absurd q h) id
theorem pg_wf {B : Nat → Int} {N : Int} : ∀ (f m : Nat) (a : List Int) (p o : Int), ((m = 2 ∨ m = 4 ∨ m = 7 ∨ 9 ≤ m) → VLw a) → WFR (PG B N f m a p o)
  | 0, m, a, p, o, _ => wf_no (by decide)
  | f + 1, m, a, p, o, ha => by
    have ih := pg_wf (B := B) (N := N) f
    have i0 : ∀ (m : Nat) (p o : Int), ¬ (m = 2 ∨ m = 4 ∨ m = 7 ∨ 9 ≤ m) → WFR (PG B N f m [] p o) := fun m p o h => ih m [] p o (fun q => absurd q h)
    have ir : ∀ (m : Nat) (c : List Int) (p o : Int), VLw c → WFR (PG B N f m c p o) := fun m c p o h => ih m c p o (fun _ => h)
    refine wf_if (fun _ => ?_) (fun n0 => wf_if (fun _ => ?_) (fun n1 => wf_if (fun e2 => ?_) (fun n2 => wf_if (fun _ => ?_) (fun n3 => wf_if (fun e4 => ?_) (fun n4 => wf_if (fun _ => ?_) (fun n5 => wf_if (fun _ => ?_) (fun n6 => wf_if (fun e7 => ?_) (fun n7 => wf_if (fun _ => ?_) (fun n8 => ?_)))))))))
    · exact wf_if (fun _ => wf_if (fun _ => wf_no (by decide)) (fun _ => wf_ok (fun nm => ⟨_, vl_num nmV_nn⟩))) (fun _ => wf_if (fun _ => wf_if (fun _ => wf_no (by decide)) (fun _ => wf_bnd (i0 _ _ _ (by decide)) (fun c q hc => wf_if (fun _ => wf_ok hc) (fun _ => wf_no (by decide))))) (fun _ => wf_if (fun _ => wf_if (fun _ => wf_no (by decide)) (fun _ => wf_if (fun _ => wf_no (by decide)) (fun _ => wf_bnd (i0 _ _ _ (by decide)) (fun c q hc => wf_if (fun _ => wf_no (by decide)) (fun _ => wf_bnd (i0 _ _ _ (by decide)) (fun d r hd => wf_if (fun _ => wf_ok (vlw_two hc hd (by split <;> decide))) (fun _ => wf_no (by decide)))))))) (fun _ => wf_if (fun _ => wf_no (by decide)) (fun h => wf_ok (fun nm => ⟨_, vl_nam (nmc_r h).1 (nmc_r h).2⟩)))))
    · exact wf_bnd (i0 _ _ _ (by decide)) (fun c q hc => ir _ _ _ _ hc)
    · exact wf_if (fun _ => wf_bnd (i0 _ _ _ (by decide)) (fun c q hc => ir _ _ _ _ (vlw_two (ha (Or.inl e2)) hc op_lt))) (fun _ => wf_ok (ha (Or.inl e2)))
    · exact wf_bnd (i0 _ _ _ (by decide)) (fun c q hc => ir _ _ _ _ hc)
    · exact wf_if (fun _ => wf_bnd (i0 _ _ _ (by decide)) (fun c q hc => ir _ _ _ _ (vlw_two (ha (Or.inr (Or.inl e4))) hc op_lt))) (fun _ => wf_ok (ha (Or.inr (Or.inl e4))))
    · exact wf_if (fun _ => wf_if (fun _ => wf_no (by decide)) (fun _ => wf_bnd (i0 _ _ _ (by decide)) (fun c q hc => wf_ok (vlw_not hc)))) (fun _ => wf_if (fun _ => wf_if (fun _ => wf_no (by decide)) (fun _ => wf_bnd (i0 _ _ _ (by decide)) (fun c q hc => wf_if (fun _ => wf_ok hc) (fun _ => wf_no (by decide))))) (fun _ => wf_bnd (i0 _ _ _ (by decide)) (fun c q hc => wf_if (fun _ => wf_bnd (i0 _ _ _ (by decide)) (fun d r hd => wf_ok (vlw_two hc hd op_lt))) (fun _ => wf_no (by decide)))))
    · exact wf_bnd (i0 _ _ _ (by decide)) (fun c q hc => ir _ _ _ _ hc)
    · exact wf_if (fun _ => wf_bnd (i0 _ _ _ (by decide)) (fun c q hc => ir _ _ _ _ (vlw_two (ha (Or.inr (Or.inr (Or.inl e7)))) hc (by decide)))) (fun _ => wf_ok (ha (Or.inr (Or.inr (Or.inl e7)))))
    · exact wf_bnd (i0 _ _ _ (by decide)) (fun c q hc => ir _ _ _ _ hc)
    · have h9 : VLw a := ha (Or.inr (Or.inr (Or.inr (by omega))))
      exact wf_if (fun _ => wf_bnd (i0 _ _ _ (by decide)) (fun c q hc => ir _ _ _ _ (vlw_two h9 hc (by decide)))) (fun _ => wf_ok h9)
theorem pgr_wf {B : Nat → Int} {N : Int} {m : Nat} {p o r : Int} {c : List Int} (hm : ¬ (m = 2 ∨ m = 4 ∨ m = 7 ∨ 9 ≤ m)) (h : PGR B N m [] p o (0, c, r)) : VLw c := by
  obtain ⟨-, f, h⟩ := h
  have z := pg_wf (B := B) (N := N) f m [] p o (fun q => absurd q hm)
  rw [h] at z
  exact z rfl
/-- the load that codes tell -/
def ldO (c : List Int) : LdF := fun nm => (c.foldl (stV nm) []).headD 0
theorem ldo_vl {c : List Int} (h : VLw c) (nm : Nat → Int32) : VLm nm (ldO c nm) c := by
  obtain ⟨v, hv⟩ := h nm
  have e : ldO c nm = v := by
    unfold ldO
    rw [hv []]
    rfl
  rw [e]; exact hv
theorem stv_no {nm nm' : Nat → Int32} (h : ∀ j, j ≠ 4 → j ≠ 5 → nm j = nm' j) {x : Int} (h5 : x ≠ -5) (h6 : x ≠ -6) (st : List Int32) : stV nm st x = stV nm' st x := by
  unfold stV
  by_cases e : -8 < x
  · rw [if_pos e, if_pos e]
    by_cases e0 : 0 ≤ x
    · rw [if_pos e0, if_pos e0]
    · rw [if_neg e0, if_neg e0, h _ (by omega) (by omega)]
  · rw [if_neg e, if_neg e]
/-- no code counts cells -/
def NCC (c : List Int) : Prop := ∀ x, x ∈ c → x ≠ -5 ∧ x ≠ -6
theorem fo_no {nm nm' : Nat → Int32} (h : ∀ j, j ≠ 4 → j ≠ 5 → nm j = nm' j) : ∀ (c : List Int) (st : List Int32), NCC c → c.foldl (stV nm) st = c.foldl (stV nm') st
  | [], _, _ => rfl
  | x :: c, st, hc => by
    show c.foldl (stV nm) (stV nm st x) = c.foldl (stV nm') (stV nm' st x)
    have z := hc x (List.mem_cons_self ..)
    rw [stv_no h z.1 z.2, fo_no h c _ (fun y hy => hc y (List.mem_cons_of_mem _ hy))]
theorem noc_o {c : List Int} (h : NCC c) : noC (ldO c) := fun nm nm' e => by
  unfold ldO
  rw [fo_no e c [] h]
theorem noc_d : noC ldD := fun nm nm' e => by
  unfold ldD
  rw [e 0 (by decide) (by decide), e 1 (by decide) (by decide), e 2 (by decide) (by decide)]
/-- n clauses are read, the text goes on at p; the last load among them: its number k, its codes c, where its sum begins -/
def CHQ (B : Nat → Int) (N : Int) : Nat → Int → Int → List Int → Int → Prop
  | 0, p, k, c, la => p = sk B N 0 ∧ k = -1 ∧ c = [] ∧ la = -1
  | n + 1, p, k, c, la => ∃ (q k0 l0 : Int) (md : Nat) (c0 c1 : List Int), CHQ B N n q k0 c0 l0 ∧ (0 ≤ q ∧ q < N) ∧ CLR B N n q 0 md c1 p ∧ ((md = 3 ∧ k = (n : Int) ∧ c = c1 ∧ la = wdE B N q) ∨ (md ≠ 3 ∧ k = k0 ∧ c = c0 ∧ la = l0))
theorem chq_n {B : Nat → Int} {N : Int} : ∀ {n : Nat} {p k : Int} {c : List Int} {la : Int}, CHQ B N n p k c la → CHN B N n p
  | 0, _, _, _, _, h => h.1
  | n + 1, _, _, _, _, ⟨q, k0, l0, md, c0, c1, h1, h2, h3, _⟩ => ⟨q, md, c1, chq_n h1, h2.2, h3⟩
theorem chq_un {B : Nat → Int} {N : Int} : ∀ {n : Nat} {p k la p' k' la' : Int} {c c' : List Int}, CHQ B N n p k c la → CHQ B N n p' k' c' la' → k = k' ∧ c = c' ∧ la = la' ∧ p = p'
  | 0, _, _, _, _, _, _, _, _, h, h' => ⟨h.2.1.trans h'.2.1.symm, h.2.2.1.trans h'.2.2.1.symm, h.2.2.2.trans h'.2.2.2.symm, h.1.trans h'.1.symm⟩
  | n + 1, _, _, _, _, _, _, _, _, ⟨q, k0, l0, md, c0, c1, h1, h2, h3, h4⟩, ⟨q', k0', l0', md', c0', c1', g1, g2, g3, g4⟩ => by
    obtain ⟨e1, e2, e3, e4⟩ := chq_un h1 g1
    subst e1 e2 e3 e4
    obtain ⟨e5, e6, e7⟩ := (clr_un h3 g3).2 rfl
    subst e5 e6
    rcases h4 with ⟨a1, a2, a3, a4⟩ | ⟨a1, a2, a3, a4⟩
    · rcases g4 with ⟨b1, b2, b3, b4⟩ | ⟨b1, b2, b3, b4⟩
      · exact ⟨a2.trans b2.symm, a3.trans b3.symm, a4.trans b4.symm, e7⟩
      · exact absurd a1 b1
    · rcases g4 with ⟨b1, b2, b3, b4⟩ | ⟨b1, b2, b3, b4⟩
      · exact absurd b1 a1
      · exact ⟨a2.trans b2.symm, a3.trans b3.symm, a4.trans b4.symm, e7⟩
theorem clr_pg {B : Nat → Int} {N k q p : Int} {c : List Int} (h : CLR B N k q 0 3 c p) : ∃ r, PGR B N 3 [] (sk B N (wdE B N q)) 0 (0, c, r) := by
  rcases h with ⟨z, _⟩ | ⟨-, ⟨_, z⟩ | ⟨-, r, r1, h⟩⟩
  · exact absurd z (by decide)
  · exact absurd z (by decide)
  · rcases h with ⟨z1, z2⟩ | ⟨_, _, z⟩ | ⟨z, _, _, e, _⟩
    · exact absurd z2.symm z1
    · exact absurd z (by decide)
    · refine ⟨r.2.2, ?_⟩
      have er : r = (0, c, r.2.2) := Prod.ext z (Prod.ext e.symm rfl)
      rw [← er]; exact r1
theorem chq_ld {B : Nat → Int} {N : Int} : ∀ {n : Nat} {p k : Int} {c : List Int} {la : Int}, CHQ B N n p k c la → (k = -1 ∧ la = -1) ∨ ((0 ≤ k ∧ k < (n : Int)) ∧ (0 ≤ la ∧ la ≤ N) ∧ ∃ r, PGR B N 3 [] (sk B N la) 0 (0, c, r))
  | 0, _, _, _, _, h => Or.inl ⟨h.2.1, h.2.2.2⟩
  | n + 1, _, _, _, _, ⟨q, k0, l0, md, c0, c1, h1, h2, h3, h4⟩ => by
    rcases h4 with ⟨a1, a2, a3, a4⟩ | ⟨a1, a2, a3, a4⟩
    · subst a1 a2 a3 a4
      have w := (wd_lo (B := B) (N := N) (p := q) _ (Nat.le_refl _))
      exact Or.inr ⟨by omega, by omega, clr_pg h3⟩
    · subst a2 a3 a4
      rcases chq_ld h1 with z | ⟨z1, z2, z3⟩
      · exact Or.inl z
      · exact Or.inr ⟨by omega, z2, z3⟩
/-- a text of rules that is taken: e clauses -/
def RUQ (B : Nat → Int) (N e k : Int) (c : List Int) (la : Int) : Prop := ∃ (n : Nat) (p : Int), CHQ B N n p k c la ∧ N ≤ p ∧ e = (n : Int)
theorem ruq_un {B : Nat → Int} {N e k la k' la' : Int} {c c' : List Int} (h : RUQ B N e k c la) (h' : RUQ B N e k' c' la') : k = k' ∧ c = c' ∧ la = la' := by
  obtain ⟨n, p, h1, h2, h3⟩ := h
  obtain ⟨n', p', g1, g2, g3⟩ := h'
  have z : n = n' := by omega
  subst z
  obtain ⟨a, b, d, -⟩ := chq_un h1 g1
  exact ⟨a, b, d⟩
theorem ruq_a {B : Nat → Int} {N e k la : Int} {c : List Int} (h : RUQ B N e k c la) : RUA B N e := by
  obtain ⟨n, p, h1, h2, h3⟩ := h
  exact ⟨0, n, ⟨p, chq_n h1, Or.inl ⟨rfl, h2⟩⟩, Or.inl ⟨rfl, h3⟩⟩
/-- class and model hold the same load -/
def RLJ (s : PS) : Prop := ∃ L : LdF, LDC L s ∧ LDM L s ∧ (iI s 15 = 0 → noC L)
theorem RLJ_fm {L M : List Nat} {s t : PS} (F : Fm L M s t) (h : (85 ∉ L ∧ 82 ∉ L ∧ 158 ∉ M) ∧ (13 ∉ L ∧ 15 ∉ L) ∧ 17 ∉ M ∧ 16 ∉ M) (r : RLJ s) : RLJ t := by
  obtain ⟨L', r1, r2, r3⟩ := r
  refine ⟨L', ?_, LDM_fm F h.1 r2, fun q => r3 (by rw [← fm_i F h.2.1.2]; exact q)⟩
  unfold LDC
  rw [fm_i F h.2.1.1, cdl_fm F h.2.2.1 h.2.2.2]
  exact r1
/-- what the class has adopted -/
def RLC (B : Nat → Int) (N e : Int) (t : PS) : Prop := ∃ (c : List Int) (la : Int), RUQ B N e (iI t 13) c la ∧ (iI t 13 ≠ -1 → cdL t (iI t 13) = c ∧ (iI t 15 = 0 → NCC c))
/-- what the model has taken -/
def RLM (B : Nat → Int) (N e : Int) (t : PS) : Prop := ∃ (k : Int) (c : List Int), RUQ B N e k c (iI t 85) ∧ iI t 82 = N ∧ ∀ j : Nat, (j : Int) < N → iC t 158 j = B j
theorem rlj_new {B : Nat → Int} {N e : Int} {t : PS} (h : RLC B N e t) (g : RLM B N e t) : RLJ t := by
  obtain ⟨c, la, h1, h2⟩ := h
  obtain ⟨k, c', g1, g2, g3⟩ := g
  obtain ⟨e1, e2, e3⟩ := ruq_un h1 g1
  obtain ⟨n, p, q1, q2, q3⟩ := g1
  rcases chq_ld q1 with ⟨z1, z2⟩ | ⟨z1, z2, r, z3⟩
  · exact ⟨ldD, Or.inl ⟨by omega, rfl⟩, Or.inl ⟨z2, rfl⟩, fun _ => noc_d⟩
  · have w := h2 (by omega)
    have wf := pgr_wf (by decide) z3
    rw [← e2] at wf z3
    refine ⟨ldO c, Or.inr ⟨by omega, fun nm => by rw [w.1]; exact ldo_vl wf nm⟩, Or.inr ⟨B, by rw [g2]; exact z2, by rw [g2]; exact g3, c, r, by rw [g2]; exact z3, ldo_vl wf⟩, fun q => noc_o (w.2 q)⟩
/-! Clauses read one after another, with the last load -/
def bgD (s : PS) (x : Int) : Int := if 0 < x then iC s 19 (x - 1).toNat else 0
def drL (s : PS) (x : Int) : List Int := (List.range (iC s 19 x.toNat - bgD s x).toNat).map (fun j => iC s 18 ((bgD s x).toNat + j))
/-- the class's draft after n clauses -/
def CQD (B : Nat → Int) (N n : Int) (s : PS) : Prop := bgD s n = iI s 16 ∧ (∀ j : Nat, (j : Int) < n → 0 ≤ iC s 19 j ∧ iC s 19 j ≤ iI s 16) ∧ ∃ (c : List Int) (la : Int), CHQ B N n.toNat (iI s 4) (iI s 17) c la ∧ (iI s 17 = -1 ∨ ((0 ≤ iI s 17 ∧ iI s 17 < n) ∧ drL s (iI s 17) = c))
/-- a clause of the class's: read, its codes in the draft -/
def CLD (B : Nat → Int) (N x : Int) (s t : PS) (e : Int) : Prop := ∃ (f : Int) (md : Nat) (c : List Int) (q : Int), CLR B N x (iI s 4) f md c q ∧ ((e = 1 ∧ f = 0 ∧ iI t 4 = q ∧ DL t = DL s ++ c ∧ UPD 19 x (iI t 16) s t ∧ ((md = 3 ∧ iI t 17 = x) ∨ (md ≠ 3 ∧ iI t 17 = iI s 17))) ∨ (e = 0 ∧ f ≠ 0 ∧ iI t 7 = f))
theorem cld_c {B : Nat → Int} {N x e : Int} {s t : PS} (h : CLD B N x s t e) : CLC B N x s t e := by
  obtain ⟨f, md, c, q, h1, h2 | h2⟩ := h
  · exact ⟨f, md, c, q, h1, Or.inl ⟨h2.1, h2.2.1, h2.2.2.1⟩⟩
  · exact ⟨f, md, c, q, h1, Or.inr h2⟩
theorem cld_no {B : Nat → Int} {N x : Int} {s t : PS} (h : CLC B N x s t 0) : CLD B N x s t 0 := by
  obtain ⟨f, md, c, q, h1, h2 | h2⟩ := h
  · exact absurd h2.1 (by decide)
  · exact ⟨f, md, c, q, h1, Or.inr h2⟩
theorem cld_of {B : Nat → Int} {N x e1 : Int} {md : Nat} {s a b c u : PS} (hw : (whV B N (iI s 4) = 247162 ∧ md = 3) ∨ (whV B N (iI s 4) = 208022 ∧ md = 8)) (hk : x < 8) (ha : DL a = DL s) (hr : RDc B N md (sk B N (wdE B N (iI s 4))) 0 (DL a) b e1) (he : e1 ≠ 0) (hs : PSS B N 59 b c 1) (h1 : iI u 4 = iI c 4) (h2 : DL u = DL b) (h3 : UPD 19 x (iI u 16) s u) (h4 : (md = 3 ∧ iI u 17 = x) ∨ (md ≠ 3 ∧ iI u 17 = iI s 17)) : CLD B N x s u 1 := by
  obtain ⟨r, r1, r2⟩ := hr
  rcases r2 with ⟨f0, z, q, d⟩ | ⟨f0, _, _⟩
  · rcases hs with ⟨c0, c1, c2⟩ | ⟨c0, _, _⟩
    · rw [q] at c1 c2
      exact ⟨0, md, r.2.1, sk B N (r.2.2 + 1), Or.inr ⟨hw, Or.inr ⟨hk, r, r1, Or.inr (Or.inr ⟨z, c1, rfl, rfl, rfl⟩)⟩⟩, Or.inl ⟨rfl, rfl, by rw [h1, c2], by rw [h2, d, ha], h3, h4⟩⟩
    · exact absurd c0 (by decide)
  · exact absurd f0 he
theorem dl_seg {t u : PS} {c : List Int} (h : DL u = DL t ++ c) (t0 : 0 ≤ iI t 16) (u0 : 0 ≤ iI u 16) : iI t 16 ≤ iI u 16 ∧ (∀ j : Nat, (j : Int) < iI t 16 → iC u 18 j = iC t 18 j) ∧ (List.range (iI u 16 - iI t 16).toNat).map (fun j => iC u 18 ((iI t 16).toNat + j)) = c := by
  have l := congrArg List.length h
  rw [List.length_append] at l
  have l1 := DL_len t0
  have l2 := DL_len u0
  have le : iI t 16 ≤ iI u 16 := by omega
  unfold DL at h
  rw [show (iI u 16).toNat = (iI t 16).toNat + (iI u 16 - iI t 16).toNat by omega, List.range_add, List.map_append] at h
  obtain ⟨h1, h2⟩ := List.append_inj h (by rw [List.length_map, List.length_map])
  refine ⟨le, fun j hj => List.map_inj_left.mp h1 j (List.mem_range.mpr (by omega)), ?_⟩
  rw [List.map_map] at h2
  exact h2
theorem drl_k {t u : PS} {k m : Int} (hk : 0 ≤ k ∧ k < m) (he : ∀ j : Nat, (j : Int) < m → 0 ≤ iC t 19 j ∧ iC t 19 j ≤ iI t 16) (h1 : ∀ j : Nat, (j : Int) < m → iC u 19 j = iC t 19 j) (h2 : ∀ j : Nat, (j : Int) < iI t 16 → iC u 18 j = iC t 18 j) : drL u k = drL t k := by
  have e1 : iC u 19 k.toNat = iC t 19 k.toNat := h1 _ (by omega)
  have e2 : bgD u k = bgD t k := by
    unfold bgD
    by_cases z : 0 < k
    · rw [if_pos z, if_pos z]; exact h1 _ (by omega)
    · rw [if_neg z, if_neg z]
  have b0 : 0 ≤ bgD t k := by
    unfold bgD
    by_cases z : 0 < k
    · rw [if_pos z]; exact (he _ (by omega)).1
    · rw [if_neg z]; exact Int.le_refl _
  have r := he k.toNat (by omega)
  unfold drL
  rw [e1, e2]
  exact List.map_congr_left (fun j hj => h2 _ (by have := List.mem_range.mp hj; omega))
theorem cqd_0 {B : Nat → Int} {N : Int} {s : PS} (h1 : iI s 4 = sk B N 0) (h2 : iI s 17 = -1) (h3 : iI s 16 = 0) : CQD B N 0 s := ⟨by rw [h3]; rfl, fun j hj => absurd hj (by omega), [], -1, ⟨h1, h2, rfl, rfl⟩, Or.inl h2⟩
theorem cqd_up {B : Nat → Int} {N n e : Int} {t u : PS} (h : CQD B N n t) (n0 : 0 ≤ n) (hp : 0 ≤ iI t 4 ∧ iI t 4 < N) (t0 : 0 ≤ iI t 16) (u0 : 0 ≤ iI u 16) (hc : CLD B N n t u e) (he : e ≠ 0) : CQD B N (n + 1) u := by
  obtain ⟨a1, a2, c0, la, a3, a4⟩ := h
  obtain ⟨f, md, c, q, b1, b2 | b2⟩ := hc
  · obtain ⟨-, b3, b4, b5, b6, b7⟩ := b2
    subst b3
    obtain ⟨d1, d2, d3⟩ := dl_seg b5 t0 u0
    have ee : ∀ j : Nat, (j : Int) < n → iC u 19 j = iC t 19 j := fun j hj => b6.2 j (by omega)
    have en : ((n.toNat : Nat) : Int) = n := by omega
    refine ⟨?_, fun j hj => ?_, ?_⟩
    · unfold bgD
      rw [if_pos (by omega), show (n + 1 - 1).toNat = n.toNat by omega]
      exact b6.1
    · by_cases z : j = n.toNat
      · rw [z, b6.1]; omega
      · rw [ee j (by omega)]
        have := a2 j (by omega)
        omega
    · rcases b7 with ⟨m1, m2⟩ | ⟨m1, m2⟩
      · refine ⟨c, wdE B N (iI t 4), ?_, Or.inr ⟨by omega, ?_⟩⟩
        · rw [show (n + 1).toNat = n.toNat + 1 by omega, b4, m2]
          exact ⟨_, _, _, md, c0, c, a3, hp, by rw [en]; exact b1, Or.inl ⟨m1, en.symm, rfl, rfl⟩⟩
        · rw [m2]
          have eb : bgD u n = iI t 16 := by
            rw [← a1]
            unfold bgD
            by_cases z : 0 < n
            · rw [if_pos z, if_pos z]; exact ee _ (by omega)
            · rw [if_neg z, if_neg z]
          unfold drL
          rw [eb, b6.1]
          exact d3
      · refine ⟨c0, la, ?_, ?_⟩
        · rw [show (n + 1).toNat = n.toNat + 1 by omega, b4, m2]
          exact ⟨_, _, _, md, c0, c, a3, hp, by rw [en]; exact b1, Or.inr ⟨m1, rfl, rfl, rfl⟩⟩
        · rw [m2]
          rcases a4 with a4 | ⟨a4, a5⟩
          · exact Or.inl a4
          · exact Or.inr ⟨by omega, (drl_k a4 a2 ee d2).trans a5⟩
  · exact absurd b2.1 he
theorem cqd_n {B : Nat → Int} {N n : Int} {t : PS} (h : CQD B N n t) : CHN B N n.toNat (iI t 4) := by
  obtain ⟨-, -, c, la, a3, -⟩ := h
  exact chq_n a3
/-- adopted: the draft's rows are the rules' rows now -/
def ADP (s t : PS) : Prop := (∀ j : Nat, iC t 16 j = iC s 18 j) ∧ (∀ j : Nat, iC t 17 j = iC s 19 j) ∧ iI t 13 = iI s 17 ∧ (iI t 15 = 0 → iI t 13 ≠ -1 → NCC (cdL t (iI t 13)))
theorem adp_l {s t : PS} {x : Int} (h : ADP s t) : cdL t x = drL s x := by
  unfold cdL drL bgV bgD
  simp only [h.1, h.2.1]
theorem rlc_of {B : Nat → Int} {N n : Int} {s t : PS} (h : CQD B N n s) (n0 : 0 ≤ n) (hp : N ≤ iI s 4) (ha : ADP s t) : RLC B N n t := by
  obtain ⟨-, -, c, la, a3, a4⟩ := h
  have e := ha.2.2.1
  refine ⟨c, la, ⟨n.toNat, _, by rw [e]; exact a3, hp, by omega⟩, fun q => ?_⟩
  have el : cdL t (iI t 13) = c := by
    rw [adp_l ha, e]
    rcases a4 with a4 | a4
    · exact absurd (e.trans a4) q
    · exact a4.2
  exact ⟨el, fun z => by rw [← el]; exact ha.2.2.2 z q⟩
/-- codes that count no cells, so far -/
def NFQ (s : PS) (b c : Int) (t : PS) : Prop := iI t 15 = 0 → ∀ j : Nat, b ≤ (j : Int) → (j : Int) < c → iC s 16 j ≠ -5 ∧ iC s 16 j ≠ -6
theorem nfq_0 {s t : PS} {b : Int} : NFQ s b b t := fun _ j h1 h2 => absurd h2 (by omega)
theorem nfq_up {s t u : PS} {b c v : Int} (h : NFQ s b c t) (c0 : 0 ≤ c) (hv : v = 0 → iI t 15 = 0 ∧ iC s 16 c.toNat ≠ -5 ∧ iC s 16 c.toNat ≠ -6) (hu : iI u 15 = v) : NFQ s b (c + 1) u := fun q j h1 h2 => by
  obtain ⟨z1, z2⟩ := hv (hu.symm.trans q)
  by_cases e : j = c.toNat
  · rw [e]; exact z2
  · exact h z1 j h1 (by omega)
theorem nfq_e {s t : PS} {c k : Int} (h : NFQ s (bgV s k) c t) (b0 : 0 ≤ bgV s k) (hk : iI t 13 = k) (hc : iC t 17 (iI t 13).toNat ≤ c) (he : ∀ j : Nat, iC t 17 j = iC s 17 j) (hs : ∀ j : Nat, iC t 16 j = iC s 16 j) (q : iI t 15 = 0) : NCC (cdL t (iI t 13)) := fun x hx => by
  rw [hk] at hc hx
  have eb : bgV t k = bgV s k := by
    unfold bgV
    rw [he]
  unfold cdL at hx
  rw [eb] at hx
  obtain ⟨j, j1, j2⟩ := List.mem_map.mp hx
  have := List.mem_range.mp j1
  rw [← j2, hs]
  exact h q _ (by omega) (by omega)
theorem DL_sam {s t : PS} (h1 : iI t 16 = iI s 16) (h2 : ∀ j : Nat, iC t 18 j = iC s 18 j) : DL t = DL s := by
  unfold DL
  rw [h1]
  exact List.map_congr_left (fun j _ => h2 j)
theorem bgv_s {s t : PS} {k : Int} (he : ∀ j : Nat, iC t 17 j = iC s 17 j) : bgV t k = bgV s k := by
  unfold bgV
  rw [he]
theorem rcp_up {B : Nat → Int} {t u : PS} {c v : Int} (h : ∀ j : Nat, (j : Int) < c → iC t 158 j = B j) (c0 : 0 ≤ c) (hu : UPD 158 c v t u) (hv : v = B c.toNat) : ∀ j : Nat, (j : Int) < c + 1 → iC u 158 j = B j := fun j hj => by
  by_cases e : j = c.toNat
  · rw [e, hu.1, hv]
  · rw [hu.2 j e]; exact h j (by omega)
theorem or_b {a b e : Int} (ha : 0 ≤ a ∧ a ≤ 1) (hb : 0 ≤ b ∧ b ≤ 1) (he : rng e) (h : Int32.ofInt e = Int32.ofInt a ||| Int32.ofInt b) : (0 ≤ e ∧ e ≤ 1) ∧ (e = 0 → a = 0 ∧ b = 0) := by
  have q := congrArg Int32.toInt h
  rw [zi he] at q
  rcases (show a = 0 ∨ a = 1 by omega) with z | z <;> rcases (show b = 0 ∨ b = 1 by omega) with y | y <;> subst z y
  · have w : (Int32.ofInt 0 ||| Int32.ofInt 0).toInt = 0 := by decide
    omega
  · have w : (Int32.ofInt 0 ||| Int32.ofInt 1).toInt = 1 := by decide
    omega
  · have w : (Int32.ofInt 1 ||| Int32.ofInt 0).toInt = 1 := by decide
    omega
  · have w : (Int32.ofInt 1 ||| Int32.ofInt 1).toInt = 1 := by decide
    omega
/-- a clause of the model's, with where its load begins -/
def CLN (B : Nat → Int) (N : Int) (s t : PS) : Prop := ∃ (f : Int) (md : Nat) (c : List Int) (q : Int), CLR B N (iI s 86) (sk B N (iI s 77)) f md c q ∧ ((iI t 79 = 0 ∧ f = 0 ∧ sk B N (iI t 77) = q ∧ ((md = 3 ∧ iI t 88 = wdE B N (sk B N (iI s 77))) ∨ (md ≠ 3 ∧ iI t 88 = iI s 88))) ∨ (iI t 79 ≠ 0 ∧ iI t 79 = f))
theorem cln_no {B : Nat → Int} {N : Int} {s t : PS} (h : CLM B N s t) (hf : iI t 79 ≠ 0) : CLN B N s t := by
  obtain ⟨f, md, c, q, h1, h2 | h2⟩ := h
  · exact absurd h2.1 hf
  · exact ⟨f, md, c, q, h1, Or.inr h2⟩
theorem cln_of {B : Nat → Int} {N p : Int} {md : Nat} {s b c u : PS} (hp : p = sk B N (iI s 77)) (hw : (whV B N p = 247162 ∧ md = 3) ∨ (whV B N p = 208022 ∧ md = 8)) (hk : iI s 86 < 8) (hou : OUm B N md (sk B N (wdE B N p)) 0 b) (hs : (iI b 79 ≠ 0 ∧ iI u 79 = iI b 79) ∨ (iI b 79 = 0 ∧ SGN B N 59 b c ∧ iI u 79 = iI c 79 ∧ iI u 77 = iI c 77)) (hl : (md = 3 ∧ iI u 88 = wdE B N p) ∨ (md ≠ 3 ∧ iI u 88 = iI s 88)) : CLN B N s u := by
  have h := clm_of hp hw hk hou hs
  by_cases z : iI u 79 = 0
  · subst hp
    obtain ⟨r, r1, r2⟩ := hou
    rcases r2 with ⟨f0, y, q⟩ | ⟨f0, y⟩
    · rcases hs with hs | ⟨-, hs, hf, ha⟩
      · exact absurd f0 hs.1
      · rcases hs with ⟨c1, c2, c3⟩ | ⟨c1, c2, c3⟩
        · rw [q] at c1 c2
          exact ⟨0, md, r.2.1, sk B N (r.2.2 + 1), Or.inr ⟨hw, Or.inr ⟨hk, r, r1, Or.inr (Or.inr ⟨y, c1, rfl, rfl, rfl⟩)⟩⟩, Or.inl ⟨z, rfl, by rw [ha, c2], hl⟩⟩
        · omega
    · rcases hs with hs | hs
      · omega
      · exact absurd hs.1 f0
  · exact cln_no h z
/-- clauses of the model's so far -/
def CHO (B : Nat → Int) (N : Int) (t : PS) : Prop := (iI t 79 = 0 ∧ ∃ (k : Int) (c : List Int), CHQ B N (iI t 86).toNat (sk B N (iI t 77)) k c (iI t 88)) ∨ (iI t 79 ≠ 0 ∧ ∃ n : Nat, RUL B N (iI t 79) n)
theorem cho_0 {B : Nat → Int} {N : Int} {t : PS} (h : iI t 79 = 0) (h1 : iI t 86 = 0) (h2 : sk B N (iI t 77) = sk B N 0) (h3 : iI t 88 = -1) : CHO B N t := Or.inl ⟨h, -1, [], by rw [h1]; exact ⟨h2, rfl, rfl, h3⟩⟩
theorem cho_mv {B : Nat → Int} {N : Int} {t u : PS} (h : CHO B N t) (h1 : iI u 79 = iI t 79) (h2 : iI u 86 = iI t 86) (h3 : sk B N (iI u 77) = sk B N (iI t 77)) (h4 : iI u 88 = iI t 88) : CHO B N u := by
  unfold CHO
  rw [h1, h2, h3, h4]
  exact h
theorem cho_up {B : Nat → Int} {N : Int} {t u : PS} (h : CHO B N t) (hf : iI t 79 = 0) (h0 : 0 ≤ iI t 86) (hp : 0 ≤ sk B N (iI t 77) ∧ sk B N (iI t 77) < N) (hc : CLN B N t u) (hn : iI u 79 = 0 → iI u 86 = iI t 86 + 1) : CHO B N u := by
  rcases h with ⟨-, k0, c0, h⟩ | h
  · obtain ⟨f, md, c, q, h1, h2⟩ := hc
    have ec : (((iI t 86).toNat : Nat) : Int) = iI t 86 := by omega
    rcases h2 with ⟨a, b, d, w⟩ | ⟨a, b⟩
    · subst b
      rcases w with ⟨w1, w2⟩ | ⟨w1, w2⟩
      · refine Or.inl ⟨a, iI t 86, c, ?_⟩
        rw [hn a, show (iI t 86 + 1).toNat = (iI t 86).toNat + 1 by omega, d, w2]
        exact ⟨_, _, _, md, c0, c, h, hp, by rw [ec]; exact h1, Or.inl ⟨w1, ec.symm, rfl, rfl⟩⟩
      · refine Or.inl ⟨a, k0, c0, ?_⟩
        rw [hn a, show (iI t 86 + 1).toNat = (iI t 86).toNat + 1 by omega, d, w2]
        exact ⟨_, _, _, md, c0, c, h, hp, by rw [ec]; exact h1, Or.inr ⟨w1, rfl, rfl, rfl⟩⟩
    · exact Or.inr ⟨a, (iI t 86).toNat, _, chq_n h, Or.inr ⟨a, hp.2, md, c, q, by rw [ec, b]; exact h1⟩⟩
  · exact absurd hf h.1
theorem cho_bad {B : Nat → Int} {N : Int} {t : PS} (h : CHO B N t) {e : Int} (h1 : iI t 79 ≠ 0 ∧ e = iI t 79 - 10) : RUA B N e := by
  rcases h with ⟨a, _⟩ | ⟨a, n, h⟩
  · exact absurd a h1.1
  · exact ⟨_, n, h, Or.inr ⟨a, h1.2⟩⟩
theorem cho_end {B : Nat → Int} {N : Int} {t : PS} (h : CHO B N t) (h0 : 0 ≤ iI t 86) (hf : iI t 79 = 0) (he : N ≤ iI t 77) : ∃ (k : Int) (c : List Int), RUQ B N (iI t 86) k c (iI t 88) := by
  rcases h with ⟨a, k, c, h⟩ | ⟨a, _⟩
  · have z := sk_le (B := B) (N := N) (p := iI t 77)
    exact ⟨k, c, (iI t 86).toNat, _, h, by omega, by omega⟩
  · exact absurd hf a
section M87k4
variable {l : Launch} {s0 : State} {D : va_G} {tys : List (ClassId × FieldType)} {a0 : Array Value} {A : Nat → Nat} {dT : Nat → ClassId} {s : PS}
end M87k4
