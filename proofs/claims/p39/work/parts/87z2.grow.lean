section
theorem oq_7be56b0d {a0 a1 : Int} (h0 : a0 ≤ a1) (h1 : a1 ≤ 20) : a0 ≤ 2147483647 := by omega
theorem oq_daa9f991 {a0 a1 : Int} (h0 : a0 ≤ a1) (h1 : a1 ≤ a0) : a0 = a1 := by omega
theorem oq_f5779fc2 {a0 a1 : Int} (h0 : a0 < a1) (h1 : a1 ≤ 20) : a0 ≤ 2147483647 := by omega
theorem oq_e4325605 {a0 a1 : Int} (h0 : a0 = a1) (h1 : a0 ≤ 20) : a1 ≤ 20 := by omega
theorem oq_61c39690 {a0 a1 a2 a3 a4 a5 : Int} (h0 : a0 = 0) (h1 : ((a1 = 1 ∧ (a2 = 0 ∧ (a3 = 1 ∧ a0 = 1))) ∨ ((a1 = 0 ∨ a2 ≠ 0) ∧ (a3 = a2 ∧ ((a0 = 0 ∧ a2 = 0) ∨ (a0 = 1 ∧ a2 ≠ 0)))))) (h2 : ((a4 ≠ 0 ∧ a1 = 0) ∨ (a4 = 0 ∧ a1 = 1))) (h3 : ((a4 = 1 ∧ (0 ≤ a5 ∧ a5 ≤ 20)) ∨ (a4 = 0 ∧ (a5 < 0 ∨ 20 < a5)))) (h4 : a2 = 0) : (a5 = a5 ∧ (0 ≤ a5 ∧ a5 ≤ 20)) := by omega
theorem oq_a4410661 {a0 a1 a2 a3 a4 a5 : Int} (h0 : a0 = 0) (h1 : ((a1 = 1 ∧ (a2 = 0 ∧ (a3 = 1 ∧ a0 = 1))) ∨ ((a1 = 0 ∨ a2 ≠ 0) ∧ (a3 = a2 ∧ ((a0 = 0 ∧ a2 = 0) ∨ (a0 = 1 ∧ a2 ≠ 0)))))) (h2 : ((a4 ≠ 0 ∧ a1 = 0) ∨ (a4 = 0 ∧ a1 = 1))) (h3 : ((a4 = 1 ∧ (0 ≤ a5 ∧ a5 ≤ 20)) ∨ (a4 = 0 ∧ (a5 < 0 ∨ 20 < a5)))) (h4 : a2 = 0) : (0 ≤ 0 ∧ 0 ≤ a5) := by omega
theorem oq_22b05ddc {a0 a1 a2 a3 a4 a5 : Int} (h0 : a0 ≠ 0) (h1 : ((a1 = 1 ∧ (a2 = 0 ∧ (a3 = 1 ∧ a0 = 1))) ∨ ((a1 = 0 ∨ a2 ≠ 0) ∧ (a3 = a2 ∧ ((a0 = 0 ∧ a2 = 0) ∨ (a0 = 1 ∧ a2 ≠ 0)))))) (h2 : ((a4 ≠ 0 ∧ a1 = 0) ∨ (a4 = 0 ∧ a1 = 1))) (h3 : ((a4 = 1 ∧ (0 ≤ a5 ∧ a5 ≤ 20)) ∨ (a4 = 0 ∧ (a5 < 0 ∨ 20 < a5)))) (h4 : a2 = 0) : (a5 < 0 ∨ 20 < a5) := by omega
/-! Moves in a row -/
theorem pcs_c {f f' : Nat → Int} (h : ∀ j, j < 128 → f j = f' j) (p : Int) : pcS f p = pcS f' p := funext (fun x => propext (by
  unfold pcS
  constructor
  · rintro ⟨q, r⟩; exact ⟨q, by rw [← h _ (by omega)]; exact r⟩
  · rintro ⟨q, r⟩; exact ⟨q, by rw [h _ (by omega)]; exact r⟩))
theorem upf_c {f f' : Nat → Int} (h : ∀ j, j < 128 → f j = f' j) (c : Nat) (p : Int) : ∀ j, j < 128 → upF f c p j = upF f' c p j := fun j hj => by
  unfold upF; rw [h j hj]
theorem prs_c {f f' : Nat → Int} (h : ∀ j, j < 128 → f j = f' j) : presF f = presF f' := funext (fun p => by
  unfold presF; rw [pcs_c h])
theorem stp_c {U : AirD} {f f' : Nat → Int} (hw : ∀ x, x < uN U → WOK ((uW U).1 x) ((uW U).2 x)) (h : ∀ j, j < 128 → f j = f' j) : stpC U f = stpC U f' := sm_eq (fun x hx => by
  show uT U x * crsH f ((uW U).1 x) ((uW U).2 x - 1).toNat = uT U x * crsH f' ((uW U).1 x) ((uW U).2 x - 1).toNat
  congr 1
  refine sm_eq (fun k hk => ?_)
  have w := hw x hx
  have e : ∀ j : Nat, (j : Int) < (uW U).2 x → f ((uW U).1 x j).toNat = f' ((uW U).1 x j).toNat := fun j hj => by
    have r := w.2.1 j hj
    exact h _ (by omega)
  have e1 := e k (by omega)
  have e2 := e (k + 1) (by omega)
  simp only [e1, e2])
theorem cst_c {U : AirD} {f f' : Nat → Int} {v : Int} (hw : ∀ x, x < uN U → WOK ((uW U).1 x) ((uW U).2 x)) (h : ∀ j, j < 128 → f j = f' j) (a : CST U f v) : CST U f' v := by
  have e : (fun p : Nat => pkH U (pcS f ((p : Nat) : Int))) = fun p : Nat => pkH U (pcS f' ((p : Nat) : Int)) := funext (fun p => by rw [pcs_c h])
  unfold CST at a ⊢
  rw [e, stp_c hw h, prs_c h] at a
  exact a
theorem cnd_c {f f' : Nat → Int} {c : Nat} {p : Int} (hc : c < 128) (h : ∀ j, j < 128 → f j = f' j) (a : cndF f c p) : cndF f' c p := by
  obtain ⟨a1, a2, d, d0, d1, d2, d3⟩ := a
  have r := adj_rng (a := (c : Int)) ⟨d, d0, d1, rfl, d2⟩ (by omega) (by omega)
  refine ⟨by rw [← h c hc]; exact a1, by rw [← h c hc]; exact a2, d, d0, d1, d2, ?_⟩
  rw [← h _ (by omega)]; exact d3
theorem good_c {U : AirD} {f f' lim lim' : Nat → Int} {c : Nat} {p : Int} (hc : c < 128) (h : ∀ j, j < 128 → f j = f' j) (hl : ∀ j, j < 8 → lim j = lim' j) (hf : 0 ≤ f c ∧ f c ≤ 7) (hp : 0 ≤ p ∧ p ≤ 7) (a : goodF U f lim c p) : goodF U f' lim' c p := by
  unfold goodF at a ⊢
  have u := upf_c h c p
  rw [prs_c u, pcs_c u, pcs_c u, hl _ (by omega), hl _ (by omega), h c hc] at a
  exact a
theorem bsr_c {U : AirD} {f f' lim lim' : Nat → Int} (hw : ∀ x, x < uN U → WOK ((uW U).1 x) ((uW U).2 x)) (h : ∀ j, j < 128 → f j = f' j) (hl : ∀ j, j < 8 → lim j = lim' j) (hf : ∀ j, j < 128 → -1 ≤ f j ∧ f j ≤ 7) : ∀ {i : Nat} {k v : Int}, i ≤ 1024 → BSR U f lim i k v → BSR U f' lim' i k v
  | 0, k, v, _, a => ⟨a.1, cst_c hw h a.2⟩
  | i + 1, k, v, hi, a => by
    obtain ⟨k0, v0, a, b⟩ := a
    refine ⟨k0, v0, bsr_c hw h hl hf (by omega) a, ?_⟩
    have hc : i / 8 < 128 := by omega
    have hp : 0 ≤ ((i % 8 : Nat) : Int) ∧ ((i % 8 : Nat) : Int) ≤ 7 := by omega
    have h' : ∀ j, j < 128 → f' j = f j := fun j hj => (h j hj).symm
    have hl' : ∀ j, j < 8 → lim' j = lim j := fun j hj => (hl j hj).symm
    rcases b with ⟨b1, b2, b3, b4, b5⟩ | ⟨b1, b2, b3⟩
    · have r := hf _ hc
      have n := b1.1
      exact Or.inl ⟨cnd_c hc h b1, good_c hc h hl (by omega) hp b2, cst_c hw (upf_c h _ _) b3, b4, b5⟩
    · refine Or.inr ⟨fun w w1 w2 w3 => ?_, b2, b3⟩
      have r := hf _ hc
      have n := w1.1
      rw [h' _ hc] at n
      exact b1 w (cnd_c hc h' w1) (good_c hc h' hl' (by rw [h' _ hc]; omega) hp w2) (cst_c hw (upf_c h' _ _) w3)
/-- j best moves, one after another -/
def GRW (U : AirD) (lim f : Nat → Int) : Nat → (Nat → Int) → Prop
  | 0, g => g = f
  | j + 1, g => ∃ (g0 : Nat → Int) (c p v : Int), GRW U lim f j g0 ∧ BSR U g0 lim 1024 (8 * c + p) v ∧ (0 ≤ c ∧ c ≤ 127 ∧ 0 ≤ p ∧ p ≤ 7) ∧ g = upF g0 c.toNat p
theorem grw_un {U : AirD} {lim f : Nat → Int} : ∀ {j : Nat} {g g' : Nat → Int}, GRW U lim f j g → GRW U lim f j g' → g = g'
  | 0, _, _, a, b => a.trans b.symm
  | j + 1, g, g', ⟨g0, c, p, v, a1, a2, a3, a4⟩, ⟨g1, c', p', v', b1, b2, b3, b4⟩ => by
    have e := grw_un a1 b1
    rw [← e] at b2 b4
    have z := (bsr_un a2 b2).1
    rw [a4, b4, show c = c' by omega, show p = p' by omega]
theorem grw_pre {U : AirD} {lim f : Nat → Int} : ∀ {n : Nat} {g : Nat → Int} {j : Nat}, GRW U lim f n g → j < n → ∃ (g0 : Nat → Int) (k v : Int), GRW U lim f j g0 ∧ BSR U g0 lim 1024 k v ∧ 0 ≤ k
  | 0, _, j, _, hj => absurd hj (by omega)
  | n + 1, g, j, ⟨g0, c, p, v, a1, a2, a3, a4⟩, hj => by
    by_cases e : j = n
    · rw [e]; exact ⟨g0, 8 * c + p, v, a1, a2, by omega⟩
    · exact grw_pre a1 (by omega)
theorem grw_r {U : AirD} {lim f : Nat → Int} (hf : ∀ j, j < 128 → -1 ≤ f j ∧ f j ≤ 7) : ∀ {n : Nat} {g : Nat → Int}, GRW U lim f n g → ∀ j, j < 128 → -1 ≤ g j ∧ g j ≤ 7
  | 0, _, a => by rw [show _ = f from a]; exact hf
  | n + 1, g, ⟨g0, c, p, v, a1, a2, a3, a4⟩ => by
    rw [a4]; exact upf_r (grw_r hf a1) (by omega)
theorem grw_c {U : AirD} {f f' lim lim' : Nat → Int} (hw : ∀ x, x < uN U → WOK ((uW U).1 x) ((uW U).2 x)) (h : ∀ j, j < 128 → f j = f' j) (hl : ∀ j, j < 8 → lim j = lim' j) (hf : ∀ j, j < 128 → -1 ≤ f j ∧ f j ≤ 7) : ∀ {n : Nat} {g : Nat → Int}, GRW U lim f n g → ∃ g', GRW U lim' f' n g' ∧ ∀ j, j < 128 → g j = g' j
  | 0, g, a => ⟨f', rfl, by rw [show g = f from a]; exact h⟩
  | n + 1, g, ⟨g0, c, p, v, a1, a2, a3, a4⟩ => by
    obtain ⟨g1, b1, b2⟩ := grw_c hw h hl hf a1
    exact ⟨upF g1 c.toNat p, ⟨g1, c, p, v, b1, bsr_c hw b2 hl (grw_r hf a1) (Nat.le_refl _) a2, a3, rfl⟩, by rw [a4]; exact upf_c b2 _ _⟩
/-- what grow answers: how many moves; fewer than x only where there is none left -/
def GRE (U : AirD) (lim f : Nat → Int) (x e : Int) (g : Nat → Int) : Prop := (0 ≤ e ∧ e ≤ x) ∧ GRW U lim f e.toNat g ∧ (e < x → ∃ v, BSR U g lim 1024 (-1) v)
theorem gre_lt {U : AirD} {lim f : Nat → Int} {x e e' : Int} {g g' : Nat → Int} (a : GRE U lim f x e g) (b : GRE U lim f x e' g') (h : e < e') : False := by
  obtain ⟨v, z⟩ := a.2.2 (by have := b.1; omega)
  obtain ⟨g0, k, w, q1, q2, q3⟩ := grw_pre b.2.1 (show e.toNat < e'.toNat by have := a.1; omega)
  rw [grw_un q1 a.2.1] at q2
  have := (bsr_un q2 z).1
  omega
theorem gre_un {U : AirD} {lim f : Nat → Int} {x e e' : Int} {g g' : Nat → Int} (a : GRE U lim f x e g) (b : GRE U lim f x e' g') : e = e' ∧ g = g' := by
  have n1 : ¬ e < e' := fun h => gre_lt a b h
  have n2 : ¬ e' < e := fun h => gre_lt b a h
  have z : e = e' := by omega
  subst z
  exact ⟨rfl, grw_un a.2.1 b.2.1⟩
/-- class and model grow alike -/
theorem gre_eq {U : AirD} {f f' lim lim' : Nat → Int} {x e e' : Int} {g g' : Nat → Int} (hw : ∀ x, x < uN U → WOK ((uW U).1 x) ((uW U).2 x)) (h : ∀ j, j < 128 → f j = f' j) (hl : ∀ j, j < 8 → lim j = lim' j) (hf : ∀ j, j < 128 → -1 ≤ f j ∧ f j ≤ 7) (a : GRE U lim f x e g) (b : GRE U lim' f' x e' g') : e = e' ∧ ∀ j, j < 128 → g j = g' j := by
  obtain ⟨g1, c1, c2⟩ := grw_c hw h hl hf a.2.1
  have c : GRE U lim' f' x e g1 := ⟨a.1, c1, fun q => by
    obtain ⟨v, z⟩ := a.2.2 q
    exact ⟨v, bsr_c hw c2 hl (grw_r hf a.2.1) (Nat.le_refl _) z⟩⟩
  obtain ⟨z1, z2⟩ := gre_un c b
  exact ⟨z1, fun j hj => by rw [← z2]; exact c2 j hj⟩
theorem gre_0 {U : AirD} {lim f : Nat → Int} : GRW U lim f ((0 : Int)).toNat f := rfl
theorem bst_mv {U : AirD} {f lim : Nat → Int} {s : PS} (h : BST U f lim 1024 s) (h0 : 0 ≤ iI s 25) : ∃ v, BSR U f lim 1024 (8 * iI s 25 + iI s 26) v := by
  obtain ⟨k, a, b⟩ := h
  rcases b with b | b
  · exact absurd b.2 (by omega)
  · rw [b.2] at a; exact ⟨_, a⟩
theorem bst_nn {U : AirD} {f lim : Nat → Int} {s : PS} (h : BST U f lim 1024 s) (h0 : iI s 25 = -1) : ∃ v, BSR U f lim 1024 (-1) v := by
  obtain ⟨k, a, b⟩ := h
  rcases b with b | b
  · rw [b.1] at a; exact ⟨_, a⟩
  · exact absurd b.1 (by omega)
theorem bsm_mv {U : AirD} {f lim : Nat → Int} {s : PS} (h : BSM U f lim 1024 s) (h0 : iI s 92 ≠ -1) : 0 ≤ iI s 92 ∧ ∃ v, BSR U f lim 1024 (8 * iI s 92 + iI s 93) v := by
  obtain ⟨k, a, b⟩ := h
  rcases b with b | b
  · exact absurd b.2 h0
  · rw [b.2] at a; exact ⟨b.1, _, a⟩
theorem bsm_nn {U : AirD} {f lim : Nat → Int} {s : PS} (h : BSM U f lim 1024 s) (h0 : iI s 92 = -1) : ∃ v, BSR U f lim 1024 (-1) v := by
  obtain ⟨k, a, b⟩ := h
  rcases b with b | b
  · rw [b.1] at a; exact ⟨_, a⟩
  · exact absurd b.1 (by omega)
theorem grw_up {U : AirD} {lim f g0 g : Nat → Int} {m c p : Int} (h : GRW U lim f m.toNat g0) (m0 : 0 ≤ m) (hb : ∃ v, BSR U g0 lim 1024 (8 * c + p) v) (h1 : 0 ≤ c ∧ c ≤ 127) (h2 : 0 ≤ p ∧ p ≤ 7) (hg : g = upF g0 c.toNat p) : GRW U lim f (m + 1).toNat g := by
  rw [show (m + 1).toNat = m.toNat + 1 by omega]
  obtain ⟨v, hv⟩ := hb
  exact ⟨g0, c, p, v, h, hv, by omega, hg⟩
theorem gre_s {U : AirD} {lim f g g' : Nat → Int} {x e : Int} (h : GRE U lim f x e g) (z : g = g') : GRE U lim f x e g' := z ▸ h
theorem gre_end {U : AirD} {lim f g : Nat → Int} {x c : Int} (h : GRW U lim f c.toNat g) (hc : c = x) (x0 : 0 ≤ x) : GRE U lim f x x g := ⟨⟨x0, Int.le_refl _⟩, hc ▸ h, fun q => absurd q (by omega)⟩
theorem gre_stop {U : AirD} {lim f g : Nat → Int} {x c : Int} (h : GRW U lim f c.toNat g) (hc : 0 ≤ c ∧ c ≤ x) (hb : ∃ v, BSR U g lim 1024 (-1) v) : GRE U lim f x c g := ⟨hc, h, fun _ => hb⟩
section M87z2
variable {l : Launch} {s0 : State} {D : va_G} {tys : List (ClassId × FieldType)} {a0 : Array Value} {A : Nat → Nat} {dT : Nat → ClassId} {s : PS}
set_option maxRecDepth 4000 in
theorem cs_grow3 (G : GX l s0 D tys a0 dT) {U : AirD} (I : Bd s) (jAIR : AIR s) (jCPL : CPL s) (jCDJ : CDJ U s) (jPMJ : PMJ s) (jCCJ : CCJ U s) {u : Int} (p0 : rng u) : CT l s0 D A dT 156 (rmN 156) [.ref (A 0), .int (Int32.ofInt u)] s (fun o t => Bd t ∧ Fm [22, 23, 24, 25, 26, 27] [33, 26, 27, 28, 29, 30, 31, 32, 20, 36, 37, 21, 35, 38, 1022, 1023] s t ∧ PMJ t ∧ ((∃ e, o = .inl (some (.int (Int32.ofInt e))) ∧ rng e ∧ ((0 ≤ u ∧ u ≤ 20) ∧ GRE U (fun j => iC s 24 j) (pfC s) u e (pfC t))) ∨ ∃ x : Nat, o = .inr (exN x) ∧ (x = 0 ∧ (u < 0 ∨ 20 < u) ∧ SAM 21 s t))) := by
  refine ct_ofX G (by decide) (Nat.le_of_ble_eq_true rfl) (fun k X E ET hRt hXt q => ?_)
  show WS k 0 [(0, .ref (A 0)), (1, .int (Int32.ofInt u))] [] _ 0 0
  have F : Fm [22, 23, 24, 25, 26, 27] [33, 26, 27, 28, 29, 30, 31, 32, 20, 36, 37, 21, 35, 38, 1022, 1023] s s := fm_rf _ _ s
  have aw0_21 : SAM 21 s s := sam_rf
  have b1 := bi_25 I
  have b2 := bi_26 I
  have L10 : ∀ (n : Nat) (t : PS) (uv c : Int), Bd t → Fm [22, 23, 24, 25, 26, 27] [33, 26, 27, 28, 29, 30, 31, 32, 20, 36, 37, 21, 35, 38, 1022, 1023] s t → AIR t → CPL t → CDJ U t → PMJ t → CCJ U t → (GRW U (fun j => iC s 24 j) (pfC s) (c : Int).toNat (pfC t)) → ((uv = u ∧ 0 ≤ uv ∧ uv ≤ 20) ∧ 0 ≤ c ∧ c ≤ uv) → (uv - c : Int).toNat < n → (∀ (t' : PS) (c' : Int), Bd t' → Fm [22, 23, 24, 25, 26, 27] [33, 26, 27, 28, 29, 30, 31, 32, 20, 36, 37, 21, 35, 38, 1022, 1023] s t' → AIR t' → CPL t' → CDJ U t' → PMJ t' → CCJ U t' → (GRW U (fun j => iC s 24 j) (pfC s) (c' : Int).toNat (pfC t')) → ((uv = u ∧ 0 ≤ uv ∧ uv ≤ 20) ∧ c' = uv) → WS k 55 [(0, .ref (A 0)), (1, .int (Int32.ofInt uv)), (2, .int (Int32.ofInt c'))] [] (Wd A dT t') 1 6) → WS k 10 [(0, .ref (A 0)), (1, .int (Int32.ofInt uv)), (2, .int (Int32.ofInt c))] [] (Wd A dT t) 1 6 := by
    intro n
    induction n with
    | zero =>
      intro t uv c I F jjAIR jjCPL jjCDJ jjPMJ jjCCJ hq hi hm kx
      exact absurd hm (Nat.not_lt_zero _)
    | succ n ih =>
      intro t uv c I F jjAIR jjCPL jjCDJ jjPMJ jjCCJ hq hi hm kx
      have b1001 := bi_25 I
      have b1002 := bi_26 I
      refine z_load_n X (x := c) rfl (List.Mem.tail _ (List.Mem.tail _ (List.Mem.head _))) (z_load_n X (x := uv) rfl (List.Mem.tail _ (List.Mem.head _)) (z_icmp_ge X (t := 55) rfl rfl ⟨by first | exact oq_fa4e5087 hi.2.1 | omega, by first | exact oq_7be56b0d hi.2.2 hi.1.2.2 | omega⟩ ⟨by first | exact oq_fa4e5087 hi.1.2.1 | omega, by first | exact oq_d1028203 hi.1.2.2 | omega⟩ (fun g1003 => ?_) (fun g1003 => ?_)))
      ·
        refine WS_pq [0, 1, 2] (lv' := [(0, .ref (A 0)), (1, .int (Int32.ofInt uv)), (2, .int (Int32.ofInt c))]) rfl ?_
        exact kx _ c I F jjAIR jjCPL jjCDJ jjPMJ jjCCJ hq (by first | exact ⟨And.intro (hi.1.1) (And.intro (hi.1.2.1) (hi.1.2.2)), oq_daa9f991 hi.2.2 g1003⟩ | omega)
      ·
        refine z_aload_n X (x := A 0) rfl (List.Mem.head _) (s_getR X 0 rfl (c518_ok rfl) rfl rfl (z_callV X 41 (rm := rmN 23) (As := []) (st := []) rfl rfl (by decide) rfl (by rw [E.1, E.2.1, E.2.2.1]; exact c2_seek3 G I jjAIR jjCPL jjCDJ jjPMJ jjCCJ ) ⟨by rw [E.2.2.2]; exact (show (rmN 23).frames + 1 ≤ (rmN 156).frames by decide), by rw [E.2.2.2]; exact (show 8 + (mNL (miB 23) + 11) + (rmN 23).locals ≤ (rmN 156).locals by decide), by rw [E.2.2.2]; exact (show 1 + 0 ≤ 1 by decide), by rw [E.2.2.2]; exact (show 6 + 0 ≤ 6 by decide)⟩ (Nat.le_of_ble_eq_true rfl) (fun vv s1004 hq => ?_) (fun ee s1004 hq => ?_)))
        rotate_left
        · obtain ⟨Is1004, Fs1004, JPMJ_s1004, e1005, hv, hrs1004, hps1004⟩ := hq; cases hv
        obtain ⟨Is1004, Fs1004, JPMJ_s1004, e1005, hv, hrs1004, hps1004⟩ := hq
        have hps1004p := And.intro hps1004.2.1 (hps1004.2.2.1)
        cases hv
        have Gs1004 := fm_tq F Fs1004 rfl rfl
        have JAIR_s1004 : AIR s1004 := AIR_fm Fs1004 (by decide) jjAIR
        have JCPL_s1004 : CPL s1004 := CPL_fm Fs1004 (by decide) jjCPL
        have JCDJ_s1004 : CDJ U s1004 := CDJ_fm Fs1004 (by decide) jjCDJ
        have JCCJ_s1004 : CCJ U s1004 := CCJ_fm Fs1004 (by decide) jjCCJ
        have b1006 := bi_25 Is1004
        have b1007 := bi_26 Is1004
        show WS k 22 [(0, .ref (A 0)), (1, .int (Int32.ofInt uv)), (2, .int (Int32.ofInt c))] [.int (Int32.ofInt e1005)] (Wd A dT s1004) 1 6
        have hB : BST U (pfC t) (fun j => iC s 24 j) 1024 s1004 := bst_c hps1004.2.2.1 rfl (show (fun j => iC t 24 j) = (fun j => iC s 24 j) from funext (fun j => fm_c F (by decide))) rfl
        have hS1 : pfC s1004 = pfC t := funext hps1004.2.1
        refine z_if_ne X (t := 27) rfl rfl hrs1004 (fun g1008 => ?_) (fun g1008 => ?_)
        ·
          refine z_aload_n X (x := A 0) rfl (List.Mem.head _) (s_getR X 0 rfl (c518_ok rfl) rfl rfl (z_aload_n X (x := A 0) rfl (List.Mem.head _) (s_getR X 0 rfl (c518_ok rfl) rfl rfl (z_getI X 41 rfl (c518_ok rfl) rfl rfl ?_))))
          have b1009 := bi_25 Is1004
          refine z_aload_n X (x := A 0) rfl (List.Mem.head _) (s_getR X 0 rfl (c518_ok rfl) rfl rfl (z_getI X 41 rfl (c518_ok rfl) rfl rfl ?_))
          have b1010 := bi_26 Is1004
          refine z_callV X 25 (rm := rmN 28) (As := [.int (Int32.ofInt (iI s1004 25)), .int (Int32.ofInt (iI s1004 26))]) (st := []) rfl rfl (by decide) rfl (by rw [E.1, E.2.1, E.2.2.1]; exact c3_put3 G Is1004 JPMJ_s1004 (by first | exact ⟨by first | (clear g1008 hps1004; omega) | (clear hps1004; omega) | omega, b1009.2⟩ | omega) (by first | exact ⟨oq_ca54ea22 b1010.1, b1010.2⟩ | omega)) ⟨by rw [E.2.2.2]; exact (show (rmN 28).frames + 1 ≤ (rmN 156).frames by decide), by rw [E.2.2.2]; exact (show 8 + (mNL (miB 28) + 11) + (rmN 28).locals ≤ (rmN 156).locals by decide), by rw [E.2.2.2]; exact (show 1 + 0 ≤ 1 by decide), by rw [E.2.2.2]; exact (show 6 + 0 ≤ 6 by decide)⟩ (Nat.le_of_ble_eq_true rfl) (fun vv s1011 hq => ?_) (fun ee s1011 hq => ?_)
          rotate_left
          · obtain ⟨Is1011, Fs1011, JPMJ_s1011, e1012, hv, hrs1011, hps1011⟩ := hq; cases hv
          obtain ⟨Is1011, Fs1011, JPMJ_s1011, e1012, hv, hrs1011, hps1011⟩ := hq
          cases hv
          have Gs1011 := fm_tq Gs1004 Fs1011 rfl rfl
          have JAIR_s1011 : AIR s1011 := AIR_fm Fs1011 (by decide) JAIR_s1004
          have JCPL_s1011 : CPL s1011 := CPL_fm Fs1011 (by decide) JCPL_s1004
          have JCDJ_s1011 : CDJ U s1011 := CDJ_fm Fs1011 (by decide) JCDJ_s1004
          have JCCJ_s1011 : CCJ U s1011 := CCJ_fm Fs1011 (by decide) JCCJ_s1004
          have ws1011_25 : iI s1011 25 = iI s1004 25 := fm_iq Fs1011 rfl
          have ws1011_26 : iI s1011 26 = iI s1004 26 := fm_iq Fs1011 rfl
          show WS k 48 [(0, .ref (A 0)), (1, .int (Int32.ofInt uv)), (2, .int (Int32.ofInt c))] [.int (Int32.ofInt e1012)] (Wd A dT s1011) 1 6
          refine w_pop X.1 (ax_d X (show cdA 156 48 = some (.pop, 1, 0, 0, 0) from rfl)) rfl (z_inc X (x := c) (lv' := [(2, .int (Int32.ofInt (c + 1))), (0, .ref (A 0)), (1, .int (Int32.ofInt uv))]) rfl (by decide) (List.Mem.tail _ (List.Mem.tail _ (List.Mem.head _))) (fun _ h => h) (z_goto X (t := 10) rfl rfl (WS_pq [1, 2, 0] (lv' := [(0, .ref (A 0)), (1, .int (Int32.ofInt uv)), (2, .int (Int32.ofInt (c + 1)))]) rfl ?_)))
          exact ih _ uv (c + 1) Is1011 Gs1011 JAIR_s1011 JCPL_s1011 JCDJ_s1011 JPMJ_s1011 JCCJ_s1011 (grw_up hq (by first | (clear g1008 hps1004; omega) | (clear hps1004; omega) | omega) (bst_mv hB (by first | (clear g1008 hps1004; omega) | (clear hps1004; omega) | omega)) (by first | (clear g1008 hps1004; omega) | (clear hps1004; omega) | omega) (by first | (clear g1008 hps1004; omega) | (clear hps1004; omega) | omega) (by rw [upf_upd hps1011.2, hS1])) (by first | exact ⟨And.intro (hi.1.1) (And.intro (hi.1.2.1) (hi.1.2.2)), oq_54f49eb5 hi.2.1, oq_afc84a8d g1003⟩ | omega) (by first | exact qk_me hm (by decide) (oq_901836cd g1003) | omega) kx
        ·
          refine z_load_n X (x := c) rfl (List.Mem.tail _ (List.Mem.tail _ (List.Mem.head _))) ?_
          exact w_iret X.1 q hRt rfl (ax_d X (show cdA 156 26 = some (.ireturn, 1, 0, 0, 0) from rfl)) (show 1 ≤ 1 by decide) (show 6 ≤ 6 by decide) ⟨_, rfl, Is1004, Gs1004, JPMJ_s1004, Or.inl ⟨c, rfl, ⟨by first | exact oq_fa4e5087 hi.2.1 | omega, by first | exact oq_f5779fc2 g1003 hi.1.2.2 | omega⟩, ⟨by first | exact ⟨oq_151a919a hi.1.1 hi.1.2.1, oq_e4325605 hi.1.1 hi.1.2.2⟩ | omega, gre_s (gre_stop (x := u) hq (by first | (clear hps1004; omega) | omega) (bst_nn hB (by first | (clear hps1004; omega) | omega))) hS1.symm⟩⟩⟩
  refine z_aload_n X (x := A 0) rfl (List.Mem.head _) (z_load_n X (x := u) rfl (List.Mem.tail _ (List.Mem.head _)) (z_const X rfl (z_bipush X rfl (z_callV X 0 (rm := rmN 184) (As := [.int (Int32.ofInt u), .int (Int32.ofInt 0), .int (Int32.ofInt 20)]) (st := []) rfl rfl (by decide) rfl (by rw [E.1, E.2.1, E.2.2.1]; exact cs_needWithin2 G I (by first | exact ⟨p0.1, p0.2⟩ | omega) (by first | exact ⟨by decide, by decide⟩ | omega) (by first | exact ⟨by decide, by decide⟩ | omega)) ⟨by rw [E.2.2.2]; exact (show (rmN 184).frames + 1 ≤ (rmN 156).frames by decide), by rw [E.2.2.2]; exact (show 8 + (mNL (miB 184) + 11) + (rmN 184).locals ≤ (rmN 156).locals by decide), by rw [E.2.2.2]; exact (show 0 + 1 ≤ 1 by decide), by rw [E.2.2.2]; exact (show 0 + 6 ≤ 6 by decide)⟩ (Nat.le_of_ble_eq_true rfl) (fun vv s3 hq => ?_) (fun ee s3 hq => ?_)))))
  rotate_left
  · obtain ⟨Is3, Fs3, (⟨hv, hps3⟩ | ⟨xx, hv, hps3⟩)⟩ := hq
    · cases hv
    · cases hv
      have Gs3 := fm_tq F Fs3 rfl rfl
      have JAIR_s3 : AIR s3 := AIR_fm Fs3 (by decide) jAIR
      have JCPL_s3 : CPL s3 := CPL_fm Fs3 (by decide) jCPL
      have JCDJ_s3 : CDJ U s3 := CDJ_fm Fs3 (by decide) jCDJ
      have JPMJ_s3 : PMJ s3 := PMJ_fm Fs3 (by decide) jPMJ
      have JCCJ_s3 : CCJ U s3 := CCJ_fm Fs3 (by decide) jCCJ
      have ws3_25 : iI s3 25 = iI s 25 := fm_iq Fs3 rfl
      have ws3_26 : iI s3 26 = iI s 26 := fm_iq Fs3 rfl
      have aws3_21 : SAM 21 s s3 := sam_ts aw0_21 (sam_fm Fs3 (by decide))
      exact x_out X.1 q (fun x hx => (hXt x hx).elim) (show 1 ≤ 1 by decide) (show 6 ≤ 6 by decide) ⟨_, rfl, Is3, Gs3, JPMJ_s3, Or.inr ⟨xx, rfl, ⟨by omega, by omega, aws3_21⟩⟩⟩
  obtain ⟨Is3, Fs3, (⟨hv, hps3⟩ | ⟨xx, hv, hps3⟩)⟩ := hq
  rotate_left
  · cases hv
  cases hv
  have Gs3 := fm_tq F Fs3 rfl rfl
  have JAIR_s3 : AIR s3 := AIR_fm Fs3 (by decide) jAIR
  have JCPL_s3 : CPL s3 := CPL_fm Fs3 (by decide) jCPL
  have JCDJ_s3 : CDJ U s3 := CDJ_fm Fs3 (by decide) jCDJ
  have JPMJ_s3 : PMJ s3 := PMJ_fm Fs3 (by decide) jPMJ
  have JCCJ_s3 : CCJ U s3 := CCJ_fm Fs3 (by decide) jCCJ
  have ws3_25 : iI s3 25 = iI s 25 := fm_iq Fs3 rfl
  have ws3_26 : iI s3 26 = iI s 26 := fm_iq Fs3 rfl
  have aws3_21 : SAM 21 s s3 := sam_ts aw0_21 (sam_fm Fs3 (by decide))
  show WS k 8 [(0, .ref (A 0)), (1, .int (Int32.ofInt u))] [] (Wd A dT s3) 1 6
  refine z_const X rfl (z_store_n X (lv' := [(2, .int (Int32.ofInt 0)), (0, .ref (A 0)), (1, .int (Int32.ofInt u))]) rfl (by decide) (fun _ h => h) (WS_pq [1, 2, 0] (lv' := [(0, .ref (A 0)), (1, .int (Int32.ofInt u)), (2, .int (Int32.ofInt 0))]) rfl (L10 ((u - 0 : Int).toNat + 1) s3 u 0 Is3 Gs3 JAIR_s3 JCPL_s3 JCDJ_s3 JPMJ_s3 JCCJ_s3 (by have z : pfC s3 = pfC s := funext aws3_21; rw [z]; exact gre_0) (by first | exact ⟨And.intro (by decide) (And.intro (hps3.1) (hps3.2)), by decide, hps3.1⟩ | omega) (Nat.lt_succ_self _) ?_)))
  intro s5 x6 Is5 Fs5 JAIR_s5 JCPL_s5 JCDJ_s5 JPMJ_s5 JCCJ_s5 Qs5 hs5
  have b7 := bi_25 Is5
  have b8 := bi_26 Is5
  refine z_load_n X (x := u) rfl (List.Mem.tail _ (List.Mem.head _)) ?_
  exact w_iret X.1 q hRt rfl (ax_d X (show cdA 156 56 = some (.ireturn, 1, 0, 0, 0) from rfl)) (show 1 ≤ 1 by decide) (show 6 ≤ 6 by decide) ⟨_, rfl, Is5, Fs5, JPMJ_s5, Or.inl ⟨u, rfl, ⟨by first | exact p0.1 | omega, by first | exact p0.2 | omega⟩, ⟨by first | exact ⟨hs5.1.2.1, hs5.1.2.2⟩ | omega, gre_end Qs5 (by first | (clear hps3; omega) | omega) (by first | (clear hps3; omega) | omega)⟩⟩⟩
set_option maxRecDepth 4000 in
theorem k_grow3 (G : GX l s0 D tys a0 dT) {U : AirD} (I : Bd s) (jRLx : RLx s) (jMDJ : MDJ U s) {x : Int} (p0 : rng x) (p1 : iI s 89 = 1) : CT l s0 D A dT 257 (rmN 257) [.ref (A 179), .int (Int32.ofInt x)] s (fun o t => Bd t ∧ Fm [73, 77, 75, 78, 79, 80, 81, 92, 93, 94] [202, 204, 205, 206, 207, 208, 209, 210, 211, 212, 213, 214, 215, 216, 217, 218, 219, 220, 221, 222, 223, 224, 225, 226, 227, 203, 161, 230, 233, 231, 232, 228] s t ∧ RLx t ∧ ∃ e, o = .inl (some (.int (Int32.ofInt e))) ∧ rng e ∧ ((0 ≤ x ∧ x ≤ 20 ∧ iI t 73 = 0 ∧ iI t 89 = 1 ∧ GRE U (fun j => iC s 229 j) (pfM s) x e (pfM t)) ∨ ((x < 0 ∨ 20 < x) ∧ iI t 73 = 1 ∧ SAM 228 s t ∧ iI t 89 = 1))) := by
  refine ct_of G (by decide) (Nat.le_of_ble_eq_true rfl) (fun k X E hRt hXt q => ?_)
  show WS k 0 [(0, .ref (A 179)), (1, .int (Int32.ofInt x))] [] _ 0 0
  have F : Fm [73, 77, 75, 78, 79, 80, 81, 92, 93, 94] [202, 204, 205, 206, 207, 208, 209, 210, 211, 212, 213, 214, 215, 216, 217, 218, 219, 220, 221, 222, 223, 224, 225, 226, 227, 203, 161, 230, 233, 231, 232, 228] s s := fm_rf _ _ s
  have aw0_228 : SAM 228 s s := sam_rf
  have b1 := bi_73 I
  have b2 := bi_92 I
  have b3 := bi_93 I
  have b4 := bi_89 I
  have L32 : ∀ (n : Nat) (t : PS) (xv ka : Int), Bd t → Fm [73, 77, 75, 78, 79, 80, 81, 92, 93, 94] [202, 204, 205, 206, 207, 208, 209, 210, 211, 212, 213, 214, 215, 216, 217, 218, 219, 220, 221, 222, 223, 224, 225, 226, 227, 203, 161, 230, 233, 231, 232, 228] s t → RLx t → MDJ U t → (GRW U (fun j => iC s 229 j) (pfM s) (ka : Int).toNat (pfM t)) → ((xv = x ∧ 0 ≤ xv ∧ xv ≤ 20) ∧ (0 ≤ ka ∧ ka ≤ xv) ∧ iI t 73 = 0 ∧ iI t 89 = 1) → (xv - ka : Int).toNat < n → (∀ (t' : PS) (ka' : Int), Bd t' → Fm [73, 77, 75, 78, 79, 80, 81, 92, 93, 94] [202, 204, 205, 206, 207, 208, 209, 210, 211, 212, 213, 214, 215, 216, 217, 218, 219, 220, 221, 222, 223, 224, 225, 226, 227, 203, 161, 230, 233, 231, 232, 228] s t' → RLx t' → MDJ U t' → (GRW U (fun j => iC s 229 j) (pfM s) (ka' : Int).toNat (pfM t')) → ((xv = x ∧ 0 ≤ xv ∧ xv ≤ 20) ∧ ka' = xv ∧ iI t' 73 = 0 ∧ iI t' 89 = 1) → WS k 70 [(0, .ref (A 179)), (1, .int (Int32.ofInt xv)), (2, .int (Int32.ofInt ka'))] [] (Wd A dT t') 0 0) → WS k 32 [(0, .ref (A 179)), (1, .int (Int32.ofInt xv)), (2, .int (Int32.ofInt ka))] [] (Wd A dT t) 0 0 := by
    intro n
    induction n with
    | zero =>
      intro t xv ka I F jjRLx jjMDJ hq hi hm kx
      exact absurd hm (Nat.not_lt_zero _)
    | succ n ih =>
      intro t xv ka I F jjRLx jjMDJ hq hi hm kx
      have b1001 := bi_73 I
      have b1002 := bi_92 I
      have b1003 := bi_93 I
      have b1004 := bi_89 I
      refine z_load_n X (x := ka) rfl (List.Mem.tail _ (List.Mem.tail _ (List.Mem.head _))) (z_load_n X (x := xv) rfl (List.Mem.tail _ (List.Mem.head _)) (z_icmp_ge X (t := 70) rfl rfl ⟨by first | exact oq_fa4e5087 hi.2.1.1 | omega, by first | exact oq_7be56b0d hi.2.1.2 hi.1.2.2 | omega⟩ ⟨by first | exact oq_fa4e5087 hi.1.2.1 | omega, by first | exact oq_d1028203 hi.1.2.2 | omega⟩ (fun g1005 => ?_) (fun g1005 => ?_)))
      ·
        refine WS_pq [0, 1, 2] (lv' := [(0, .ref (A 179)), (1, .int (Int32.ofInt xv)), (2, .int (Int32.ofInt ka))]) rfl ?_
        exact kx _ ka I F jjRLx jjMDJ hq (by first | exact ⟨And.intro (hi.1.1) (And.intro (hi.1.2.1) (hi.1.2.2)), oq_daa9f991 hi.2.1.2 g1005, hi.2.2.1, hi.2.2.2⟩ | omega)
      ·
        refine z_aload_n X (x := A 179) rfl (List.Mem.head _) (zcV_v1 X E 179 (As := []) (st := []) rfl rfl rfl rfl (k_findMove3 G I jjRLx jjMDJ (by first | exact hi.2.2.2 | omega)) rfl (Nat.le_of_ble_eq_true rfl) (fun s1006 Is1006 Fs1006 JRLx_s1006 hps1006 => ?_))
        have Gs1006 := fm_tq F Fs1006 rfl rfl
        have JRLx_s1006 : RLx s1006 := RLx_fm Fs1006 (by decide) jjRLx
        have JMDJ_s1006 : MDJ U s1006 := MDJ_fm Fs1006 (by decide) jjMDJ
        have ws1006_73 : iI s1006 73 = iI t 73 := fm_iq Fs1006 rfl
        have b1008 := bi_92 Is1006
        have b1009 := bi_93 Is1006
        have ws1006_89 : iI s1006 89 = iI t 89 := fm_iq Fs1006 rfl
        have hB : BSM U (pfM t) (fun j => iC s 229 j) 1024 s1006 := bsm_c hps1006.1 rfl (show (fun j => iC t 229 j) = (fun j => iC s 229 j) from funext (fun j => fm_c F (by decide))) rfl
        have hS1 : pfM s1006 = pfM t := funext hps1006.2.1
        refine z_aload_n X (x := A 179) rfl (List.Mem.head _) (z_getI X 179 rfl (c518_ok rfl) rfl rfl ?_)
        have b1010 := bi_92 Is1006
        refine z_const X rfl (z_icmp_ne X (t := 51) rfl rfl (rng_to _) (by decide) (fun g1011 => ?_) (fun g1011 => ?_))
        ·
          have hM := bsm_mv hB (by first | (clear g1011; omega) | omega)
          refine z_aload_n X (x := A 179) rfl (List.Mem.head _) (s_getR X 179 rfl (c518_ok rfl) rfl rfl (z_aload_n X (x := A 179) rfl (List.Mem.head _) (z_getI X 179 rfl (c518_ok rfl) rfl rfl ?_)))
          have b1012 := bi_92 Is1006
          refine z_aload_n X (x := A 179) rfl (List.Mem.head _) (z_getI X 179 rfl (c518_ok rfl) rfl rfl ?_)
          have b1013 := bi_93 Is1006
          refine z_ast X 256 rfl (c518_ok rfl) rfl (by first | exact oq_5234833b b1012.1 g1011 | omega) (show (iI s1006 92) < 128 by first | exact oq_31b2bf10 b1012.2 | omega) (cbig_ok rfl) (wd_gen (fun s1014 hs1014 => ?_))
          have Is1014 : Bd s1014 := eqB hs1014 (bd_C Is1006 (show ((-1) : Int) ≤ (iI s1006 93) ∧ (iI s1006 93) ≤ 7 by first | exact ⟨oq_ca54ea22 b1013.1, b1013.2⟩ | omega) (rng_to _))
          have Fs1014 := eqF hs1014 (fm_C Gs1006 (inl_ok (a := 228) rfl))
          have ws1014_73 : iI s1014 73 = iI s1006 73 := eqI hs1014 rfl
          have ws1014_92 : iI s1014 92 = iI s1006 92 := eqI hs1014 rfl
          have ws1014_93 : iI s1014 93 = iI s1006 93 := eqI hs1014 rfl
          have ws1014_89 : iI s1014 89 = iI s1006 89 := eqI hs1014 rfl
          have aws1014_228 : UPD 228 ((iI s1006 92)) (iI s1006 93) s1006 s1014 := by rw [hs1014]; exact upd_put (sam_rf (a := 228) (s := s1006)) (rng_to _)
          have fs1014 : Fm [] [228] s1006 s1014 := by rw [hs1014]; exact fm_C (fm_rf _ _ _) (show 228 ∈ _ by decide)
          have JRLx_s1014 : RLx s1014 := RLx_fm fs1014 (by decide) JRLx_s1006
          have JMDJ_s1014 : MDJ U s1014 := MDJ_fm fs1014 (by decide) JMDJ_s1006
          refine z_inc X (x := ka) (lv' := [(2, .int (Int32.ofInt (ka + 1))), (0, .ref (A 179)), (1, .int (Int32.ofInt xv))]) rfl (by decide) (List.Mem.tail _ (List.Mem.tail _ (List.Mem.head _))) (fun _ h => h) (z_goto X (t := 32) rfl rfl (WS_pq [1, 2, 0] (lv' := [(0, .ref (A 179)), (1, .int (Int32.ofInt xv)), (2, .int (Int32.ofInt (ka + 1)))]) rfl ?_))
          exact ih _ xv (ka + 1) Is1014 Fs1014 JRLx_s1014 JMDJ_s1014 (grw_up hq (by first | (clear g1011; omega) | omega) hM.2 (by first | (clear g1011; omega) | omega) (by first | (clear g1011; omega) | omega) (by rw [upm_upd aws1014_228, hS1])) (by first | exact ⟨And.intro (hi.1.1) (And.intro (hi.1.2.1) (hi.1.2.2)), And.intro (oq_54f49eb5 hi.2.1.1) (oq_afc84a8d g1005), oq_7fe879e0 ws1014_73 ws1006_73 hi.2.2.1 b1001.1, oq_f34933ba ws1014_89 ws1006_89 hi.2.2.2 b1004.1⟩ | omega) (by first | exact qk_me hm (by decide) (oq_901836cd g1005) | omega) kx
        ·
          refine z_load_n X (x := ka) rfl (List.Mem.tail _ (List.Mem.tail _ (List.Mem.head _))) ?_
          exact w_iret X.1 q hRt rfl (ax_d X (show cdA 257 50 = some (.ireturn, 1, 0, 0, 0) from rfl)) (Nat.zero_le _) (Nat.zero_le _) ⟨_, rfl, Is1006, Gs1006, JRLx_s1006, ka, rfl, ⟨by first | exact oq_fa4e5087 hi.2.1.1 | omega, by first | exact oq_f5779fc2 g1005 hi.1.2.2 | omega⟩, (Or.inl ⟨by first | exact oq_151a919a hi.1.1 hi.1.2.1 | omega, by first | exact oq_e4325605 hi.1.1 hi.1.2.2 | omega, by first | exact oq_333640b7 ws1006_73 hi.2.2.1 b1001.1 | omega, by first | exact oq_b44a1c7f ws1006_89 hi.2.2.2 b1004.1 | omega, gre_s (gre_stop (x := x) hq (by omega) (bsm_nn hB (by omega))) hS1.symm⟩)⟩
  refine z_aload_n X (x := A 179) rfl (List.Mem.head _) (z_const X rfl (s_putI X 179 rfl (c518_ok rfl) rfl rfl (by decide) rfl rfl rfl (wd_gen (fun s5 hs5 => ?_))))
  have Is5 : Bd s5 := eqB hs5 (bd_I I (show (0 : Int) ≤ 0 ∧ 0 ≤ 3 by first | exact ⟨by decide, by decide⟩ | omega) (by decide))
  have Fs5 := eqF hs5 (fm_I F (inl_ok (a := 73) rfl))
  have vs5 : iI s5 73 = 0 := eqI hs5 (iI_u (by decide))
  have ws5_92 : iI s5 92 = iI s 92 := eqI hs5 rfl
  have ws5_93 : iI s5 93 = iI s 93 := eqI hs5 rfl
  have ws5_89 : iI s5 89 = iI s 89 := eqI hs5 rfl
  have aws5_228 : SAM 228 s s5 := by rw [hs5]; exact aw0_228
  have fs5 : Fm [73] [] s s5 := by rw [hs5]; exact fm_I (fm_rf _ _ _) (show 73 ∈ _ by decide)
  have JRLx_s5 : RLx s5 := RLx_fm fs5 (by decide) jRLx
  have JMDJ_s5 : MDJ U s5 := MDJ_fm fs5 (by decide) jMDJ
  refine z_aload_n X (x := A 179) rfl (List.Mem.head _) (z_load_n X (x := x) rfl (List.Mem.tail _ (List.Mem.head _)) (z_const X rfl (z_bipush X rfl (z_callS X (rm := rmN 188) (As := [.int (Int32.ofInt x), .int (Int32.ofInt 0), .int (Int32.ofInt 20)]) (st := [.ref (A 179)]) rfl rfl (by rw [E.1, E.2.1, E.2.2.1]; exact k_in2 G Is5 (by first | exact ⟨p0.1, p0.2⟩ | omega) (by first | exact ⟨by decide, by decide⟩ | omega) (by first | exact ⟨by decide, by decide⟩ | omega)) ⟨by rw [E.2.2.2]; exact (show (rmN 188).frames + 1 ≤ (rmN 257).frames by decide), by rw [E.2.2.2]; exact (show 8 + (mNL (miB 188) + 11) + (rmN 188).locals ≤ (rmN 257).locals by decide), by rw [E.2.2.2]; exact (show 0 + (rmN 188).cells ≤ (rmN 257).cells by decide), by rw [E.2.2.2]; exact (show 0 + (rmN 188).slots ≤ (rmN 257).slots by decide)⟩ (Nat.le_of_ble_eq_true rfl) (fun vv s6 hq => ?_) (fun ee s6 hq => ?_)))))
  rotate_left
  · obtain ⟨rfl, e7, hv, hrs6, hps6⟩ := hq; cases hv
  obtain ⟨rfl, e7, hv, hrs6, hps6⟩ := hq
  cases hv
  show WS k 13 [(0, .ref (A 179)), (1, .int (Int32.ofInt x))] [.int (Int32.ofInt e7), .ref (A 179)] (Wd A dT s5) 0 0
  have N8 : ∀ e9 : Int, (((e7 ≠ 0) ∧ e9 = 0) ∨ ((e7 = 0) ∧ e9 = 1)) → WS k 21 [(0, .ref (A 179)), (1, .int (Int32.ofInt x))] [.int (Int32.ofInt e9), .ref (A 179)] (Wd A dT s5) 0 0 := by
    intro e9 he9
    have re9 : 0 ≤ e9 ∧ e9 ≤ 1 := by first | (clear he9 hps6; omega) | (clear hps6; omega) | omega
    refine z_const X rfl (zcV_i0 X E 179 (As := [.int (Int32.ofInt e9), .int (Int32.ofInt 1)]) (st := []) rfl rfl rfl rfl (k_bad2 G Is5 (by first | exact oq_31e518ae re9.2 re9.1 | omega) (by first | exact ⟨by decide, by decide⟩ | omega)) rfl (Nat.le_of_ble_eq_true rfl) (fun s10 e11 Is10 Fs10 hrs10 hps10 => ?_))
    have Gs10 := fm_tq Fs5 Fs10 rfl rfl
    have JRLx_s10 : RLx s10 := RLx_fm Fs10 (by decide) JRLx_s5
    have JMDJ_s10 : MDJ U s10 := MDJ_fm Fs10 (by decide) JMDJ_s5
    have b12 := bi_73 Is10
    have ws10_92 : iI s10 92 = iI s5 92 := fm_iq Fs10 rfl
    have ws10_93 : iI s10 93 = iI s5 93 := fm_iq Fs10 rfl
    have ws10_89 : iI s10 89 = iI s5 89 := fm_iq Fs10 rfl
    have aws10_228 : SAM 228 s s10 := sam_ts aws5_228 (sam_fm Fs10 (by decide))
    refine z_if_eq X (t := 30) rfl rfl hrs10 (fun g13 => ?_) (fun g13 => ?_)
    ·
      refine z_const X rfl (z_store_n X (lv' := [(2, .int (Int32.ofInt 0)), (0, .ref (A 179)), (1, .int (Int32.ofInt x))]) rfl (by decide) (fun _ h => h) (WS_pq [1, 2, 0] (lv' := [(0, .ref (A 179)), (1, .int (Int32.ofInt x)), (2, .int (Int32.ofInt 0))]) rfl (L32 ((x - 0 : Int).toNat + 1) s10 x 0 Is10 Gs10 JRLx_s10 JMDJ_s10 (by have z : pfM s10 = pfM s := funext aws10_228; rw [z]; exact gre_0) (by first | exact ⟨oq_61c39690 g13 hps10 he9 hps6 vs5, oq_a4410661 g13 hps10 he9 hps6 vs5, oq_9f99e80f g13 b12.1 hps10 vs5, oq_f34933ba ws10_89 ws5_89 p1 b4.1⟩ | omega) (Nat.lt_succ_self _) ?_)))
      intro s14 x15 Is14 Fs14 JRLx_s14 JMDJ_s14 Qs14 hs14
      have b16 := bi_73 Is14
      have b17 := bi_92 Is14
      have b18 := bi_93 Is14
      have b19 := bi_89 Is14
      refine z_load_n X (x := x) rfl (List.Mem.tail _ (List.Mem.head _)) ?_
      exact w_iret X.1 q hRt rfl (ax_d X (show cdA 257 71 = some (.ireturn, 1, 0, 0, 0) from rfl)) (Nat.zero_le _) (Nat.zero_le _) ⟨_, rfl, Is14, Fs14, JRLx_s14, x, rfl, ⟨by first | exact p0.1 | omega, by first | exact p0.2 | omega⟩, (Or.inl ⟨by first | exact hs14.1.2.1 | omega, by first | exact hs14.1.2.2 | omega, by first | exact hs14.2.2.1 | omega, by first | exact hs14.2.2.2 | omega, gre_end Qs14 (by first | (clear hps10 he9 hps6; omega) | (clear he9 hps6; omega) | omega) (by first | (clear hps10 he9 hps6; omega) | (clear he9 hps6; omega) | omega)⟩)⟩
    ·
      refine z_const X rfl ?_
      exact w_iret X.1 q hRt rfl (ax_d X (show cdA 257 29 = some (.ireturn, 1, 0, 0, 0) from rfl)) (Nat.zero_le _) (Nat.zero_le _) ⟨_, rfl, Is10, Gs10, JRLx_s10, 0, rfl, (by decide), (Or.inr ⟨by first | exact oq_22b05ddc g13 hps10 he9 hps6 vs5 | omega, by first | exact oq_58a3c280 g13 hps10 vs5 | omega, aws10_228, by first | exact oq_f34933ba ws10_89 ws5_89 p1 b4.1 | omega⟩)⟩
  refine z_if_ne X (t := 20) rfl rfl hrs6 (fun g20 => ?_) (fun g20 => ?_)
  ·
    exact z_const X rfl (N8 _ (Or.inl ⟨g20, rfl⟩))
  ·
    exact z_const X rfl (z_goto X (t := 21) rfl rfl (N8 _ (Or.inr (⟨g20, rfl⟩))))
end M87z2
end
section
theorem oq_59eb8c43 {a0 : Int} (h0 : a0 ≠ (-5)) : (((-1) - a0) : Int).toNat ≠ 4 := by omega
theorem oq_995d45ad {a0 : Int} (h0 : a0 ≠ (-6)) : (((-1) - a0) : Int).toNat ≠ 5 := by omega
theorem oq_f6610f58 {n0 : Nat}  : ((n0 : Nat) : Int) < (((n0 + 1) : Nat) : Int) := by omega
theorem oq_92c58319 {a0 a1 a2 : Int} (h0 : (a0 ≤ a1 ∨ a0 = a2)) (h1 : a2 < a1) : a0 ≤ a1 := by omega
theorem oq_736a7c87 {a0 : Int} {n1 n2 : Nat} (h0 : a0 = ((n1 : Nat) : Int)) (h1 : a0 = ((n2 : Nat) : Int)) : n2 = n1 := by omega
theorem oq_bc238e02 {a0 a1 : Int} (h0 : a0 = (-1)) (h1 : a1 = a0) : a1 = (-1) := by omega
theorem oq_af1c4d12 {a0 a1 : Int} (h0 : 0 ≤ a0) (h1 : a1 = a0) : a1 ≠ (-1) := by omega
theorem oq_92f3ec72 {a1 a3 : Int} {n0 n2 n4 : Nat} (h0 : ((n0 : Nat) : Int) = a1) (h1 : ((n2 : Nat) : Int) = a3) (h2 : n0 = (n2 + n4)) : a3 ≤ a1 := by omega
theorem oq_849c986d {a0 a1 : Int} (h0 : a0 ≤ a1) (h1 : 0 ≤ a1) (h2 : 0 ≤ a0) : (a1 : Int).toNat = ((a0 : Int).toNat + ((a1 - a0) : Int).toNat) := by omega
theorem oq_2e24a498 {a0 a1 : Int} (h0 : 0 < a0) (h1 : a0 < a1) : ((((a0 - 1) : Int).toNat : Nat) : Int) < a1 := by omega
theorem oq_27fc5cdc {a1 : Int} {n0 : Nat} (h0 : ((n0 : Nat) : Int) < a1) : n0 ≠ (a1 : Int).toNat := by omega
theorem oq_395b99c4 {a0 : Int} (h0 : (((a0 : Int).toNat : Nat) : Int) = a0) (h1 : 0 ≤ a0) : (((a0 + 1) - 1) : Int).toNat = (a0 : Int).toNat := by omega
theorem oq_09e9a4f0 {a1 : Int} {n0 : Nat} (h0 : (¬ (n0 = (a1 : Int).toNat))) (h1 : ((n0 : Nat) : Int) < (a1 + 1)) (h2 : (((a1 : Int).toNat : Nat) : Int) = a1) : ((n0 : Nat) : Int) < a1 := by omega
theorem oq_748c1749 {a0 a1 : Int} (h0 : a0 = a1) : a0 < (a1 + 1) := by omega
theorem oq_09087e7c {a0 : Int} (h0 : 0 < a0) : ((((a0 - 1) : Int).toNat : Nat) : Int) < a0 := by omega
theorem oq_04f27f6f {a0 : Int} {n1 : Nat} (h0 : a0 ≤ ((n1 : Nat) : Int)) : (¬ (((n1 : Nat) : Int) < a0)) := by omega
theorem oq_287e5c5c {a0 : Int} {n1 : Nat}  : a0 ≤ ((((a0 : Int).toNat + n1) : Nat) : Int) := by omega
theorem oq_8025e2ba {a1 a2 a3 : Int} {n0 : Nat} (h0 : n0 < ((a1 - a2) : Int).toNat) (h1 : a1 ≤ a3) (h2 : 0 ≤ a2) : ((((a2 : Int).toNat + n0) : Nat) : Int) < a3 := by omega
theorem oq_7ad6ed8e {a0 a1 : Int} (h0 : a0 = 1) (h1 : a0 = 0) : a1 = 0 := by omega
theorem oq_7f354ec2 {a0 a1 a2 a3 : Int} (h0 : (a0 = a1 ∨ a0 ≤ a2)) (h1 : a3 ≤ 200) (h2 : a3 = a2) (h3 : a1 ≤ a3) : a0 ≤ 390 := by omega
theorem oq_d39b6a64 {a0 a1 a2 a3 : Int} (h0 : a0 ≠ 0) (h1 : 0 ≤ a0) (h2 : ((a1 ≠ a2 ∧ a0 = 0) ∨ (a1 = a2 ∧ a0 = 1))) (h3 : a2 = 247162) (h4 : a1 = a3) : a3 ≠ 0 := by omega
theorem oq_bc0f03a9 {a0 a1 a2 a3 a4 : Int} (h0 : a0 < a1) (h1 : (a2 = a3 ∨ a2 ≤ a1)) (h2 : a3 = a0) (h3 : a4 ≤ 200) (h4 : a4 = a1) : a2 ≤ 200 := by omega
theorem oq_29234f11 {a0 a1 a2 a3 a4 a5 : Int} (h0 : a0 = a1) (h1 : a2 < a3) (h2 : (a1 = a4 ∨ a1 ≤ a3)) (h3 : a4 = a2) (h4 : a5 ≤ 200) (h5 : a5 = a3) : a0 ≤ 203 := by omega
theorem oq_f72d14bd {a0 a1 a2 a3 a4 : Int} (h0 : 0 ≤ a0) (h1 : a0 = a1) (h2 : a1 = a2) (h3 : a2 = a3) (h4 : a3 = a4) (h5 : a4 = 0) : a1 = 0 := by omega
theorem oq_22e2f6a5 {a0 a1 a2 a3 a4 a5 a6 a7 : Int} (h0 : a0 = a1) (h1 : (a1 = a2 ∨ a1 ≤ 202)) (h2 : a2 = a3) (h3 : a4 < a5) (h4 : (a3 = a6 ∨ a3 ≤ a5)) (h5 : a6 = a4) (h6 : a7 ≤ 200) (h7 : a7 = a5) : a0 ≤ 203 := by omega
theorem oq_8294da13 {a0 a1 a2 a3 : Int} (h0 : a0 ≠ 0) (h1 : 0 ≤ a0) (h2 : ((a1 ≠ a2 ∧ a0 = 0) ∨ (a1 = a2 ∧ a0 = 1))) (h3 : a2 = 247162) (h4 : a1 = a3) : a3 = 247162 := by omega
theorem oq_8d312aa3 {a0 a1 : Int} (h0 : a0 ≠ 8) (h1 : a0 ≤ 8) (h2 : a0 = a1) : a1 < 8 := by omega
theorem oq_27b0f828 {a0 a1 a2 a3 a4 a5 a6 a7 a8 : Int} (h0 : a0 = a1) (h1 : (a1 = a2 ∨ a1 ≤ (a3 + 1))) (h2 : (a2 = a4 ∨ a2 ≤ 202)) (h3 : a4 = a5) (h4 : a6 < a3) (h5 : (a5 = a7 ∨ a5 ≤ a3)) (h6 : a7 = a6) (h7 : a8 ≤ 200) (h8 : a8 = a3) : a0 ≤ 203 := by omega
theorem oq_2ca254b7 {a0 a1 a2 a3 a4 a5 a6 a7 a8 a9 a10 a11 a12 : Int} (h0 : a0 = a1) (h1 : a2 = a3) (h2 : (a1 = 0 → a3 ≤ a4)) (h3 : 0 ≤ a1) (h4 : a5 ≤ a3) (h5 : a6 ≤ a5) (h6 : a6 = a7) (h7 : a8 < a9) (h8 : a7 = a9) (h9 : a10 = a8) (h10 : a11 ≤ a10) (h11 : a12 = a4) : (a0 = 0 → (a11 < a2 ∧ a2 ≤ a12)) := by omega
theorem oq_825ee5b4 {a0 a1 a2 a3 a4 : Int} (h0 : a0 = a1) (h1 : (a1 = a2 ∨ a1 ≤ a3)) (h2 : a4 ≤ 200) (h3 : a4 = a3) (h4 : a2 ≤ a4) : a0 ≤ 203 := by omega
theorem oq_882d2e9a {a0 a1 : Int} (h0 : a0 = 8) (h1 : a0 = a1) : 8 ≤ a1 := by omega
theorem oq_dfefd463 {a0 a1 a2 : Int} (h0 : a0 ≠ 0) (h1 : 0 ≤ a0) (h2 : ((a1 = 0 ∧ a0 = 3) ∨ (a1 ≠ 0 ∧ a0 = a1))) (h3 : a1 = a2) (h4 : a2 = 0) : a0 = 3 := by omega
theorem oq_87c5e308 {a0 a1 a2 a3 : Int} (h0 : a0 ≠ 0) (h1 : 0 ≤ a0) (h2 : ((a1 ≠ a2 ∧ a0 = 0) ∨ (a1 = a2 ∧ a0 = 1))) (h3 : a2 = 208022) (h4 : a1 = a3) : a3 ≠ 0 := by omega
theorem oq_96a2ea0e {a0 a1 a2 a3 a4 a5 a6 : Int} (h0 : a0 = a1) (h1 : a1 = a2) (h2 : a3 < a4) (h3 : (a2 = a5 ∨ a2 ≤ a4)) (h4 : a5 = a3) (h5 : a6 ≤ 200) (h6 : a6 = a4) : a0 ≤ 203 := by omega
theorem oq_b86ef8dd {a0 a1 a2 a3 a4 a5 a6 a7 : Int} (h0 : a0 = a1) (h1 : a1 = a2) (h2 : a3 < a4) (h3 : (a2 = a5 ∨ a2 ≤ a4)) (h4 : a5 = a3) (h5 : a6 ≤ 200) (h6 : a6 = a4) : (a7 = 0 → a0 ≤ 202) := by omega
theorem oq_6e8d74d4 {a0 a1 a2 a3 a4 a5 : Int} (h0 : 0 ≤ a0) (h1 : a0 = a1) (h2 : a1 = a2) (h3 : a2 = a3) (h4 : a3 = a4) (h5 : a4 = a5) (h6 : a5 = 0) : a1 = 0 := by omega
theorem oq_cc51afe1 {a0 a1 a2 a3 : Int} (h0 : a0 ≠ 0) (h1 : 0 ≤ a0) (h2 : ((a1 ≠ a2 ∧ a0 = 0) ∨ (a1 = a2 ∧ a0 = 1))) (h3 : a2 = 208022) (h4 : a1 = a3) : a3 = 208022 := by omega
theorem oq_80c6071c {a0 a1 a2 a3 a4 a5 a6 a7 a8 a9 : Int} (h0 : a0 = a1) (h1 : (a1 = a2 ∨ a1 ≤ (a3 + 1))) (h2 : (a2 = a4 ∨ a2 ≤ 203)) (h3 : a4 = a5) (h4 : a5 = a6) (h5 : a7 < a3) (h6 : (a6 = a8 ∨ a6 ≤ a3)) (h7 : a8 = a7) (h8 : a9 ≤ 200) (h9 : a9 = a3) : a0 ≤ 203 := by omega
theorem oq_51e71c05 {a0 a1 a2 a3 a4 a5 a6 a7 a8 a9 a10 a11 a12 a13 : Int} (h0 : a0 = a1) (h1 : a2 = a3) (h2 : (a1 = 0 → a3 ≤ a4)) (h3 : 0 ≤ a1) (h4 : a5 ≤ a3) (h5 : a6 ≤ a5) (h6 : a6 = a7) (h7 : a7 = a8) (h8 : a9 < a10) (h9 : a8 = a10) (h10 : a11 = a9) (h11 : a12 ≤ a11) (h12 : a13 = a4) : (a0 = 0 → (a12 < a2 ∧ a2 ≤ a13)) := by omega
theorem oq_05244a56 {a0 a1 a2 a3 : Int} (h0 : a0 = 0) (h1 : ((a1 ≠ a2 ∧ a0 = 0) ∨ (a1 = a2 ∧ a0 = 1))) (h2 : a2 = 247162) (h3 : a1 = a3) : a3 ≠ 247162 := by omega
theorem oq_5c903396 {a0 a1 a2 a3 : Int} (h0 : a0 = 0) (h1 : ((a1 ≠ a2 ∧ a0 = 0) ∨ (a1 = a2 ∧ a0 = 1))) (h2 : a2 = 208022) (h3 : a1 = a3) : a3 ≠ 208022 := by omega
theorem oq_d5228e69 {a0 a1 a2 : Int} (h0 : a0 ≠ 0) (h1 : 0 ≤ a0) (h2 : ((a1 = 0 ∧ a0 = 1) ∨ (a1 ≠ 0 ∧ a0 = a1))) (h3 : a1 = a2) (h4 : a2 = 0) : a0 = 1 := by omega
theorem oq_476f83b9 {a0 a1 a2 : Int} (h0 : (a0 = a1 ∨ a0 ≤ a2)) (h1 : a1 ≤ 203) (h2 : a2 ≤ 200) : a0 ≤ 203 := by omega
theorem oq_83b3dadf {a0 a1 a2 a3 a4 a5 a6 a7 a8 : Int} (h0 : a0 = a1) (h1 : a2 = a3) (h2 : (a4 = a5 ∨ a4 ≤ a6)) (h3 : 0 ≤ a1) (h4 : a3 = a7) (h5 : (a1 = 0 → (a8 < a5 ∧ a5 ≤ a7))) (h6 : a7 = a6) : (a0 = 0 → a4 ≤ a2) := by omega
theorem oq_6090b535 {a0 a1 a2 : Int} (h0 : a0 < a1) (h1 : a2 ≤ 200) (h2 : a1 = a2) : (a0 : Int).toNat < 200 := by omega
theorem oq_61822bb0 {a0 a1 a3 : Int} {n2 : Nat} (h0 : a0 < a1) (h1 : ((200 - a0) : Int).toNat < (n2 + 1)) (h2 : a3 ≤ 200) (h3 : a1 = a3) : ((200 - (a0 + 1)) : Int).toNat < n2 := by omega
theorem oq_ed7b9fc5 {a0 a1 : Int} {n2 : Nat} (h0 : a0 < a1) (h1 : a1 ≤ 8) (h2 : ((8 - a0) : Int).toNat < (n2 + 1)) : ((8 - (a0 + 1)) : Int).toNat < n2 := by omega
theorem oq_0a89d25b {a0 a1 a2 a3 : Int} (h0 : a0 = a1) (h1 : a1 = a2) (h2 : a2 = a3) (h3 : 0 ≤ a3) (h4 : a3 = 0) : a0 = 0 := by omega
theorem oq_732eeee6 {a0 a1 : Int} (h0 : a0 ≤ 200) (h1 : a0 = a1) : a1 ≤ 200 := by omega
theorem oq_b13ada65 {a0 a1 a2 a3 : Int} (h0 : a0 = a1) (h1 : a1 = a2) (h2 : a2 = a3) (h3 : 0 ≤ a3) : 0 ≤ a0 := by omega
theorem oq_f6c784f6 {a0 a1 a2 a3 a4 : Int} (h0 : a0 = a1) (h1 : a1 = a2) (h2 : a2 = a3) (h3 : a3 = a4) (h4 : 0 ≤ a4) (h5 : a4 = 0) : a0 = 0 := by omega
theorem oq_2b17bf81 {a0 a1 : Int} (h0 : 0 ≤ a0) (h1 : a0 = a1) : 0 ≤ a1 := by omega
theorem oq_99273f81 {a0 a1 a2 a3 : Int} (h0 : a0 ≠ 0) (h1 : ((a0 = 1 ∧ (0 ≤ a1 ∧ a1 ≤ a2)) ∨ (a0 = 0 ∧ (a1 < 0 ∨ a2 < a1)))) (h2 : a2 = a3) : a1 ≤ a3 := by omega
theorem oq_bdbb0bbc {a0 a1 a2 a3 a4 a5 a6 : Int} (h0 : (a0 = a1 ∨ a0 ≤ a2)) (h1 : a1 = a3) (h2 : a3 = a4) (h3 : a4 = a5) (h4 : a6 ≤ 200) (h5 : a5 = 0) (h6 : a6 = a2) : a0 ≤ 203 := by omega
theorem oq_ae234e1a {a0 a1 a2 a3 a4 a5 a6 a7 a8 a9 a10 a11 : Int} (h0 : a0 = a1) (h1 : (a2 = a3 ∨ a2 ≤ a4)) (h2 : a1 = a5) (h3 : a3 = a6) (h4 : a5 = a7) (h5 : a6 = a8) (h6 : a7 = a9) (h7 : a8 = a10) (h8 : 0 ≤ a9) (h9 : a10 = 0) (h10 : a9 = a4) : (a11 = 0 → a2 ≤ a0) := by omega
theorem oq_6c0d6f35 {a0 a1 a2 a3 a4 a5 a6 a7 a8 : Int} (h0 : a0 = a1) (h1 : a1 = a2) (h2 : a2 = a3) (h3 : a3 = a4) (h4 : a4 = a5) (h5 : a5 = a6) (h6 : 0 ≤ a6) (h7 : (((0 : Int) = 1 ∧ (a7 = 0 ∧ (a6 = 1 ∧ a8 = 1))) ∨ (((0 : Int) = 0 ∨ a7 ≠ 0) ∧ (a6 = a7 ∧ ((a8 = 0 ∧ a7 = 0) ∨ (a8 = 1 ∧ a7 ≠ 0)))))) (h8 : a7 = 0) : a0 = 0 := by omega
theorem oq_1e5eb3fc {a0 a1 : Int} (h0 : a0 = 0) (h1 : a0 = a1) (h2 : 0 ≤ a1) : a1 = 0 := by omega
theorem oq_051635f5 {a0 a1 a2 a3 : Int} (h0 : a0 = 0) (h1 : a0 = a1) (h2 : 0 ≤ a1) (h3 : (a1 = 0 → a2 ≤ a3)) : a2 ≤ a3 := by omega
theorem oq_b0c88ec2  : (0 : Int) ≤ 200 := by omega
theorem oq_118a616f {a0 a1 a2 a3 : Int} (h0 : a0 = a1) (h1 : a2 = a3) (h2 : a1 ≤ a3) : a0 ≤ a2 := by omega
theorem oq_970d7846 {a0 a1 : Int} (h0 : 0 ≤ a0) (h1 : a0 ≠ 0) (h2 : a0 = a1) : a1 ≠ 0 := by omega
theorem oq_aa527afa {a0 a1 : Int} (h0 : a0 = a1) : (a0 - 10) = (a1 - 10) := by omega
theorem oq_22c60b3d {a0 a1 a2 a3 : Int} (h0 : a0 ≠ 0) (h1 : (((0 : Int) = 1 ∧ (a1 = 0 ∧ (a2 = 1 ∧ a0 = 1))) ∨ (((0 : Int) = 0 ∨ a1 ≠ 0) ∧ (a2 = a1 ∧ ((a0 = 0 ∧ a1 = 0) ∨ (a0 = 1 ∧ a1 ≠ 0)))))) (h2 : a1 = 0) : a3 < 0 := by omega
theorem oq_d8ebe12c {a0 a1 a2 : Int} (h0 : a0 ≠ 0) (h1 : (((0 : Int) = 1 ∧ (a1 = 0 ∧ (a2 = 1 ∧ a0 = 1))) ∨ (((0 : Int) = 0 ∨ a1 ≠ 0) ∧ (a2 = a1 ∧ ((a0 = 0 ∧ a1 = 0) ∨ (a0 = 1 ∧ a1 ≠ 0)))))) (h2 : a1 = 0) : a2 = 1 := by omega
theorem oq_cf5a735f {a0 a1 a2 a3 : Int} (h0 : a0 = 0) (h1 : (((1 : Int) = 1 ∧ (a1 = 0 ∧ (a2 = 1 ∧ a0 = 1))) ∨ (((1 : Int) = 0 ∨ a1 ≠ 0) ∧ (a2 = a1 ∧ ((a0 = 0 ∧ a1 = 0) ∨ (a0 = 1 ∧ a1 ≠ 0)))))) (h2 : a1 = 0) : a3 ≤ 200 := by omega
theorem oq_262cead8 {a0 a1 a2 a3 a4 : Int} (h0 : a0 = 0) (h1 : (((1 : Int) = 1 ∧ (a1 = 0 ∧ (a2 = 1 ∧ a0 = 1))) ∨ (((1 : Int) = 0 ∨ a1 ≠ 0) ∧ (a2 = a1 ∧ ((a0 = 0 ∧ a1 = 0) ∨ (a0 = 1 ∧ a1 ≠ 0)))))) (h2 : a1 = 0) : a3 ≤ a4 := by omega
theorem oq_c0d1f3ee {a0 a1 a2 a3 a4 a5 a6 a7 a8 : Int} (h0 : a0 = a1) (h1 : a1 = a2) (h2 : a2 = a3) (h3 : a3 = a4) (h4 : a4 = a5) (h5 : a5 = a6) (h6 : a7 = 0) (h7 : 0 ≤ a6) (h8 : (((1 : Int) = 1 ∧ (a8 = 0 ∧ (a6 = 1 ∧ a7 = 1))) ∨ (((1 : Int) = 0 ∨ a8 ≠ 0) ∧ (a6 = a8 ∧ ((a7 = 0 ∧ a8 = 0) ∨ (a7 = 1 ∧ a8 ≠ 0)))))) (h9 : a8 = 0) : a0 = 0 := by omega
theorem oq_2d34da41 {a0 a1 a2 a3 a4 : Int} (h0 : 0 ≤ a0) (h1 : a1 ≤ a2) (h2 : a3 = 0) (h3 : ((a3 = 1 ∧ (0 ≤ a1 ∧ a1 ≤ a4)) ∨ (a3 = 0 ∧ (a1 < 0 ∨ a4 < a1)))) (h4 : a4 = a2) : a1 ≤ a0 := by omega
theorem oq_96060be6 {a0 a1 : Int} (h0 : a0 ≠ 0) (h1 : ((a0 = 1 ∧ a1 = 247162) ∨ (a0 = 0 ∧ a1 ≠ 247162))) : a1 = 247162 := by omega
theorem oq_8a74ed36 {a0 a1 : Int} (h0 : a0 ≠ 0) (h1 : (a1 = 247162 ∨ a1 = 208022)) (h2 : ((a0 = 1 ∧ a1 = 247162) ∨ (a0 = 0 ∧ a1 ≠ 247162))) : a1 = 247162 := by omega
theorem oq_9b5300ea {a0 a1 : Int} (h0 : a0 ≠ 0) (h1 : ((a0 = 1 ∧ a1 = 208022) ∨ (a0 = 0 ∧ a1 ≠ 208022))) : a1 = 208022 := by omega
theorem oq_feebb640 {a0 a1 : Int} (h0 : a0 = 0) (h1 : (a1 = 247162 ∨ a1 = 208022)) (h2 : ((a0 = 1 ∧ a1 = 247162) ∨ (a0 = 0 ∧ a1 ≠ 247162))) : a1 = 208022 := by omega
theorem oq_a9f6c510 {a0 a1 : Int} (h0 : a0 = 0) (h1 : ((a0 = 1 ∧ a1 = 247162) ∨ (a0 = 0 ∧ a1 ≠ 247162))) : a1 ≠ 247162 := by omega
theorem oq_2ae0af84 {a0 a1 : Int} (h0 : a0 = 0) (h1 : ((a0 = 1 ∧ a1 = 208022) ∨ (a0 = 0 ∧ a1 ≠ 208022))) : a1 ≠ 208022 := by omega
theorem oq_0db09374  : (0 : Int) ≤ 1 := by omega
theorem oq_d467785f {a0 a1 : Int} (h0 : (a0 = 0 → (a1 = 0 ∧ (1 : Int) = 0))) (h1 : a0 ≤ 1) (h2 : 0 ≤ a0) : a0 = 1 := by omega
theorem oq_7cc0e6da {a0 a1 : Int} {n2 : Nat} (h0 : a0 < a1) (h1 : a1 ≤ 200) (h2 : ((200 - a0) : Int).toNat < (n2 + 1)) : ((200 - (a0 + 1)) : Int).toNat < n2 := by omega
theorem oq_2da220b0 {a0 a1 a2 a3 a4 : Int} (h0 : a0 = (-1)) (h1 : a0 = a1) (h2 : a1 = a2) (h3 : a2 = a3) (h4 : a3 = a4) (h5 : (-1) ≤ a4) : a0 = a4 := by omega
theorem oq_08d28ec2 {a0 a1 : Int} (h0 : a0 ≠ 0) (h1 : (8 ≤ a1 → a0 = 0)) : (a1 + 1) ≤ 8 := by omega
theorem oq_04a44f0d {a0 a1 a2 : Int} (h0 : a0 = a1) (h1 : a1 = a2) (h2 : a2 = (-1)) : a0 = (-1) := by omega
theorem oq_e022ead3 {a0 a1 a2 a3 a4 a5 a6 a7 : Int} (h0 : a0 = a1) (h1 : a1 = a2) (h2 : a2 = a3) (h3 : a3 = a4) (h4 : a5 = a6) (h5 : a4 ≤ a7) (h6 : a7 ≤ a5) : a0 ≤ a6 := by omega
theorem oq_e44ee128 {a0 a1 : Int} (h0 : a0 = 1) (h1 : a0 = 0) : 0 ≤ (a1 - 10) := by omega
theorem oq_e13159da {a0 a1 a2 : Int} (h0 : a0 = 1) (h1 : a0 = 0) : a1 = (a2 - 10) := by omega
theorem oq_e7c7db4f {a0 a1 : Int} (h0 : a0 = 0) (h1 : a0 ≠ 0) : a1 < 0 := by omega
theorem oq_f791edb0 {a0 a1 a2 : Int} (h0 : a0 = 0) (h1 : a0 ≠ 0) : a1 = (a2 - 10) := by omega

theorem oq_ec2e99bd {a0 a1 : Int} (h0 : a0 = a1) (h1 : a1 ≤ 200) : a0 ≤ 2147483647 := by omega
theorem oq_a2afda0c {a0 a1 a2 : Int} (h0 : a0 < a1) (h1 : a1 = a2) (h2 : a2 ≤ 200) : a0 < 200 := by omega
theorem oq_7290672e {a0 a1 a2 : Int} (h0 : a0 < a1) (h1 : a1 = a2) (h2 : a2 ≤ 200) : (a0 : Int).toNat < 200 := by omega
theorem oq_44170929 {a0 a1 a2 : Int} (h0 : a0 < a1) (h1 : a1 = a2) (h2 : a2 ≤ 200) : (a0 + 1) ≤ 200 := by omega
theorem oq_1d5bb5f6 {a0 a1 a2 : Int} (h0 : a0 < a1) (h1 : a1 = a2) (h2 : a2 ≤ 200) : 0 < (200 - a0) := by omega
theorem oq_e6dd31ff {a0 a1 a2 : Int} (h0 : a0 ≠ 0) (h1 : ((a0 = 1 ∧ (0 ≤ a1 ∧ a1 ≤ a2)) ∨ (a0 = 0 ∧ (a1 < 0 ∨ a2 < a1)))) : 0 ≤ a1 := by omega
theorem oq_eb53b30f {a0 a1 a2 : Int} (h0 : a0 ≠ 0) (h1 : ((a0 = 1 ∧ (0 ≤ a1 ∧ a1 ≤ a2)) ∨ (a0 = 0 ∧ (a1 < 0 ∨ a2 < a1)))) (h2 : a2 ≤ 200) : a1 ≤ 200 := by omega
theorem oq_d1c86cea {a0 a1 a2 a3 a4 : Int} (h0 : a0 ≤ 200) (h1 : 0 ≤ a0) (h2 : a0 = a1) (h3 : a2 ≠ 0) (h4 : ((a2 = 1 ∧ (0 ≤ a1 ∧ a1 ≤ a3)) ∨ (a2 = 0 ∧ (a1 < 0 ∨ a3 < a1)))) (h5 : a3 = a4) : (0 ≤ a1 ∧ (a1 ≤ a4 ∧ a1 ≤ 200)) := by omega
theorem oq_ee6d0677 {a0 a1 a2 a3 a4 a5 a6 a7 a8 : Int} (h0 : a0 = a1) (h1 : a1 = a2) (h2 : a2 = a3) (h3 : a3 = a4) (h4 : a4 = a5) (h5 : a5 = a6) (h6 : 0 ≤ a6) (h7 : ((0 = 1 ∧ (a7 = 0 ∧ (a6 = 1 ∧ a8 = 1))) ∨ ((0 = 0 ∨ a7 ≠ 0) ∧ (a6 = a7 ∧ ((a8 = 0 ∧ a7 = 0) ∨ (a8 = 1 ∧ a7 ≠ 0)))))) (h8 : a7 = 0) : a0 = 0 := by omega
theorem oq_a634ad6e {a0 : Int} (h0 : a0 ≤ 9) : (a0 - 10) < 0 := by omega
theorem oq_01116dcd {a0 a1 a2 a3 a4 : Int} (h0 : a0 ≠ 0) (h1 : ((0 = 1 ∧ (a1 = 0 ∧ (a2 = 1 ∧ a0 = 1))) ∨ ((0 = 0 ∨ a1 ≠ 0) ∧ (a2 = a1 ∧ ((a0 = 0 ∧ a1 = 0) ∨ (a0 = 1 ∧ a1 ≠ 0)))))) (h2 : a1 = 0) : (a3 < 0 ∨ a4 < a3) := by omega
theorem oq_df0d149a {a0 a1 a2 : Int} (h0 : a0 ≠ 0) (h1 : ((0 = 1 ∧ (a1 = 0 ∧ (a2 = 1 ∧ a0 = 1))) ∨ ((0 = 0 ∨ a1 ≠ 0) ∧ (a2 = a1 ∧ ((a0 = 0 ∧ a1 = 0) ∨ (a0 = 1 ∧ a1 ≠ 0)))))) (h2 : a1 = 0) : a2 = 1 := by omega
theorem oq_fd1fe449 {a0 a1 a2 a3 : Int} (h0 : a0 = 0) (h1 : ((1 = 1 ∧ (a1 = 0 ∧ (a2 = 1 ∧ a0 = 1))) ∨ ((1 = 0 ∨ a1 ≠ 0) ∧ (a2 = a1 ∧ ((a0 = 0 ∧ a1 = 0) ∨ (a0 = 1 ∧ a1 ≠ 0)))))) (h2 : a1 = 0) : a3 ≤ 200 := by omega
theorem oq_607845ef {a0 a1 a2 a3 a4 : Int} (h0 : a0 = 0) (h1 : ((1 = 1 ∧ (a1 = 0 ∧ (a2 = 1 ∧ a0 = 1))) ∨ ((1 = 0 ∨ a1 ≠ 0) ∧ (a2 = a1 ∧ ((a0 = 0 ∧ a1 = 0) ∨ (a0 = 1 ∧ a1 ≠ 0)))))) (h2 : a1 = 0) : (0 ≤ a3 ∧ (a3 ≤ a4 ∧ a3 ≤ 200)) := by omega
theorem oq_1f30bbcd {a0 a1 a2 a3 : Int} (h0 : a0 = 0) (h1 : ((1 = 1 ∧ (a1 = 0 ∧ (a2 = 1 ∧ a0 = 1))) ∨ ((1 = 0 ∨ a1 ≠ 0) ∧ (a2 = a1 ∧ ((a0 = 0 ∧ a1 = 0) ∨ (a0 = 1 ∧ a1 ≠ 0)))))) (h2 : a1 = 0) : a3 ≤ 203 := by omega
theorem oq_bd3ae47d {a0 a1 a2 a3 a4 a5 : Int} (h0 : a0 = 0) (h1 : ((1 = 1 ∧ (a1 = 0 ∧ (a2 = 1 ∧ a0 = 1))) ∨ ((1 = 0 ∨ a1 ≠ 0) ∧ (a2 = a1 ∧ ((a0 = 0 ∧ a1 = 0) ∨ (a0 = 1 ∧ a1 ≠ 0)))))) (h2 : a1 = 0) : (a3 = 0 → a4 ≤ a5) := by omega
theorem oq_12537a21 {a0 a1 a2 a3 a4 a5 a6 a7 a8 : Int} (h0 : a0 = a1) (h1 : a1 = a2) (h2 : a2 = a3) (h3 : a3 = a4) (h4 : a4 = a5) (h5 : a5 = a6) (h6 : a7 = 0) (h7 : 0 ≤ a6) (h8 : ((1 = 1 ∧ (a8 = 0 ∧ (a6 = 1 ∧ a7 = 1))) ∨ ((1 = 0 ∨ a8 ≠ 0) ∧ (a6 = a8 ∧ ((a7 = 0 ∧ a8 = 0) ∨ (a7 = 1 ∧ a8 ≠ 0)))))) (h9 : a8 = 0) : a0 = 0 := by omega
theorem oq_5e46c7aa {a0 a1 a2 a3 : Int} (h0 : a0 = 0) (h1 : ((a0 = 1 ∧ (0 ≤ a1 ∧ a1 ≤ a2)) ∨ (a0 = 0 ∧ (a1 < 0 ∨ a2 < a1)))) (h2 : a2 = a3) : (a1 < 0 ∨ a3 < a1) := by omega
theorem oq_a959501e {a0 a1 a2 a3 a4 : Int} (h0 : a0 = a1) (h1 : a2 = a3) (h2 : a3 = a4) (h3 : a4 = a0) : a2 = a1 := by omega
/-! What the rules' last load comes to: the same in class and model -/
def VLw (c : List Int) : Prop := ∀ nm : Nat → Int32, ∃ v, VLm nm v c
def WFR (r : Rd) : Prop := r.1 = 0 → VLw r.2.1
theorem wf_bnd {r : Rd} {g : List Int → Int → Rd} (h1 : WFR r) (h2 : ∀ c q, VLw c → WFR (g c q)) : WFR (bnd r g) := by
  unfold bnd
  by_cases e : r.1 = 0
  · rw [if_pos e]; exact h2 _ _ (h1 e)
  · rw [if_neg e]; exact h1
theorem wf_if {p : Prop} [Decidable p] {a b : Rd} (h1 : p → WFR a) (h2 : ¬ p → WFR b) : WFR (if p then a else b) := by
  by_cases e : p
  · rw [if_pos e]; exact h1 e
  · rw [if_neg e]; exact h2 e
theorem wf_no {k : Int} {c : List Int} {q : Int} (h : k ≠ 0) : WFR (k, c, q) := fun z => absurd z h
theorem wf_ok {k : Int} {c : List Int} {q : Int} (h : VLw c) : WFR (k, c, q) := fun _ => h
theorem vlw_two {c d : List Int} {o : Int} (h1 : VLw c) (h2 : VLw d) (ho : o < -8) : VLw (c ++ d ++ [o]) := fun nm => by
  obtain ⟨v, hv⟩ := h1 nm
  obtain ⟨w, hw⟩ := h2 nm
  exact ⟨_, vl_two hv hw ho⟩
theorem vlw_not {c : List Int} (h1 : VLw c) : VLw (c ++ [-8]) := fun nm => by
  obtain ⟨v, hv⟩ := h1 nm
  exact ⟨_, vl_not hv⟩
theorem nmc_r {B : Nat → Int} {N p : Int} (h : nmC B N p ≠ 0) : -8 < nmC B N p ∧ nmC B N p < 0 := by
  have z : nmC B N p = 0 ∨ (-8 < nmC B N p ∧ nmC B N p < 0) := by
    unfold nmC
    (repeat' split) <;> omega
  exact z.elim (fun q => absurd q h) id
theorem pg_wf {B : Nat → Int} {N : Int} : ∀ (f m : Nat) (a : List Int) (p o : Int), ((m = 2 ∨ m = 4 ∨ m = 7 ∨ 9 ≤ m) → VLw a) → WFR (PG B N f m a p o)
  | 0, m, a, p, o, _ => wf_no (by decide)
  | f + 1, m, a, p, o, ha => by
    have ih := pg_wf (B := B) (N := N) f
    have i0 : ∀ (m : Nat) (p o : Int), ¬ (m = 2 ∨ m = 4 ∨ m = 7 ∨ 9 ≤ m) → WFR (PG B N f m [] p o) := fun m p o h => ih m [] p o (fun q => absurd q h)
    have ir : ∀ (m : Nat) (c : List Int) (p o : Int), VLw c → WFR (PG B N f m c p o) := fun m c p o h => ih m c p o (fun _ => h)
    refine wf_if (fun _ => ?_) (fun n0 => wf_if (fun _ => ?_) (fun n1 => wf_if (fun e2 => ?_) (fun n2 => wf_if (fun _ => ?_) (fun n3 => wf_if (fun e4 => ?_) (fun n4 => wf_if (fun _ => ?_) (fun n5 => wf_if (fun _ => ?_) (fun n6 => wf_if (fun e7 => ?_) (fun n7 => wf_if (fun _ => ?_) (fun n8 => ?_)))))))))
    · exact wf_if (fun _ => wf_if (fun _ => wf_no (by decide)) (fun _ => wf_ok (fun nm => ⟨_, vl_num nmV_nn⟩))) (fun _ => wf_if (fun _ => wf_if (fun _ => wf_no (by decide)) (fun _ => wf_bnd (i0 _ _ _ (by decide)) (fun c q hc => wf_if (fun _ => wf_ok hc) (fun _ => wf_no (by decide))))) (fun _ => wf_if (fun _ => wf_if (fun _ => wf_no (by decide)) (fun _ => wf_if (fun _ => wf_no (by decide)) (fun _ => wf_bnd (i0 _ _ _ (by decide)) (fun c q hc => wf_if (fun _ => wf_no (by decide)) (fun _ => wf_bnd (i0 _ _ _ (by decide)) (fun d r hd => wf_if (fun _ => wf_ok (vlw_two hc hd (by split <;> decide))) (fun _ => wf_no (by decide)))))))) (fun _ => wf_if (fun _ => wf_no (by decide)) (fun h => wf_ok (fun nm => ⟨_, vl_nam (nmc_r h).1 (nmc_r h).2⟩)))))
    · exact wf_bnd (i0 _ _ _ (by decide)) (fun c q hc => ir _ _ _ _ hc)
    · exact wf_if (fun _ => wf_bnd (i0 _ _ _ (by decide)) (fun c q hc => ir _ _ _ _ (vlw_two (ha (Or.inl e2)) hc op_lt))) (fun _ => wf_ok (ha (Or.inl e2)))
    · exact wf_bnd (i0 _ _ _ (by decide)) (fun c q hc => ir _ _ _ _ hc)
    · exact wf_if (fun _ => wf_bnd (i0 _ _ _ (by decide)) (fun c q hc => ir _ _ _ _ (vlw_two (ha (Or.inr (Or.inl e4))) hc op_lt))) (fun _ => wf_ok (ha (Or.inr (Or.inl e4))))
    · exact wf_if (fun _ => wf_if (fun _ => wf_no (by decide)) (fun _ => wf_bnd (i0 _ _ _ (by decide)) (fun c q hc => wf_ok (vlw_not hc)))) (fun _ => wf_if (fun _ => wf_if (fun _ => wf_no (by decide)) (fun _ => wf_bnd (i0 _ _ _ (by decide)) (fun c q hc => wf_if (fun _ => wf_ok hc) (fun _ => wf_no (by decide))))) (fun _ => wf_bnd (i0 _ _ _ (by decide)) (fun c q hc => wf_if (fun _ => wf_bnd (i0 _ _ _ (by decide)) (fun d r hd => wf_ok (vlw_two hc hd op_lt))) (fun _ => wf_no (by decide)))))
    · exact wf_bnd (i0 _ _ _ (by decide)) (fun c q hc => ir _ _ _ _ hc)
    · exact wf_if (fun _ => wf_bnd (i0 _ _ _ (by decide)) (fun c q hc => ir _ _ _ _ (vlw_two (ha (Or.inr (Or.inr (Or.inl e7)))) hc (by decide)))) (fun _ => wf_ok (ha (Or.inr (Or.inr (Or.inl e7)))))
    · exact wf_bnd (i0 _ _ _ (by decide)) (fun c q hc => ir _ _ _ _ hc)
    · have h9 : VLw a := ha (Or.inr (Or.inr (Or.inr (by first | exact oq_876da925 n8 n7 n6 n5 n4 n3 n2 n1 n0 | omega))))
      exact wf_if (fun _ => wf_bnd (i0 _ _ _ (by decide)) (fun c q hc => ir _ _ _ _ (vlw_two h9 hc (by decide)))) (fun _ => wf_ok h9)
theorem pgr_wf {B : Nat → Int} {N : Int} {m : Nat} {p o r : Int} {c : List Int} (hm : ¬ (m = 2 ∨ m = 4 ∨ m = 7 ∨ 9 ≤ m)) (h : PGR B N m [] p o (0, c, r)) : VLw c := by
  obtain ⟨-, f, h⟩ := h
  have z := pg_wf (B := B) (N := N) f m [] p o (fun q => absurd q hm)
  rw [h] at z
  exact z rfl
/-- the load that codes tell -/
def ldO (c : List Int) : LdF := fun nm => (c.foldl (stV nm) []).headD 0
theorem ldo_vl {c : List Int} (h : VLw c) (nm : Nat → Int32) : VLm nm (ldO c nm) c := by
  obtain ⟨v, hv⟩ := h nm
  have e : ldO c nm = v := by
    unfold ldO
    rw [hv []]
    rfl
  rw [e]; exact hv
theorem stv_no {nm nm' : Nat → Int32} (h : ∀ j, j ≠ 4 → j ≠ 5 → nm j = nm' j) {x : Int} (h5 : x ≠ -5) (h6 : x ≠ -6) (st : List Int32) : stV nm st x = stV nm' st x := by
  unfold stV
  by_cases e : -8 < x
  · rw [if_pos e, if_pos e]
    by_cases e0 : 0 ≤ x
    · rw [if_pos e0, if_pos e0]
    · rw [if_neg e0, if_neg e0, h _ (by first | exact oq_59eb8c43 h5 | omega) (by first | exact oq_995d45ad h6 | omega)]
  · rw [if_neg e, if_neg e]
/-- no code counts cells -/
def NCC (c : List Int) : Prop := ∀ x, x ∈ c → x ≠ -5 ∧ x ≠ -6
theorem fo_no {nm nm' : Nat → Int32} (h : ∀ j, j ≠ 4 → j ≠ 5 → nm j = nm' j) : ∀ (c : List Int) (st : List Int32), NCC c → c.foldl (stV nm) st = c.foldl (stV nm') st
  | [], _, _ => rfl
  | x :: c, st, hc => by
    show c.foldl (stV nm) (stV nm st x) = c.foldl (stV nm') (stV nm' st x)
    have z := hc x (List.mem_cons_self ..)
    rw [stv_no h z.1 z.2, fo_no h c _ (fun y hy => hc y (List.mem_cons_of_mem _ hy))]
theorem noc_o {c : List Int} (h : NCC c) : noC (ldO c) := fun nm nm' e => by
  unfold ldO
  rw [fo_no e c [] h]
theorem noc_d : noC ldD := fun nm nm' e => by
  unfold ldD
  rw [e 0 (by decide) (by decide), e 1 (by decide) (by decide), e 2 (by decide) (by decide)]
/-- n clauses are read, the text goes on at p; the last load among them: its number k, its codes c, where its sum begins -/
def CHQ (B : Nat → Int) (N : Int) : Nat → Int → Int → List Int → Int → Prop
  | 0, p, k, c, la => p = sk B N 0 ∧ k = -1 ∧ c = [] ∧ la = -1
  | n + 1, p, k, c, la => ∃ (q k0 l0 : Int) (md : Nat) (c0 c1 : List Int), CHQ B N n q k0 c0 l0 ∧ (0 ≤ q ∧ q < N) ∧ CLR B N n q 0 md c1 p ∧ ((md = 3 ∧ k = (n : Int) ∧ c = c1 ∧ la = wdE B N q) ∨ (md ≠ 3 ∧ k = k0 ∧ c = c0 ∧ la = l0))
theorem chq_n {B : Nat → Int} {N : Int} : ∀ {n : Nat} {p k : Int} {c : List Int} {la : Int}, CHQ B N n p k c la → CHN B N n p
  | 0, _, _, _, _, h => h.1
  | n + 1, _, _, _, _, ⟨q, k0, l0, md, c0, c1, h1, h2, h3, _⟩ => ⟨q, md, c1, chq_n h1, h2.2, h3⟩
theorem chq_un {B : Nat → Int} {N : Int} : ∀ {n : Nat} {p k la p' k' la' : Int} {c c' : List Int}, CHQ B N n p k c la → CHQ B N n p' k' c' la' → k = k' ∧ c = c' ∧ la = la' ∧ p = p'
  | 0, _, _, _, _, _, _, _, _, h, h' => ⟨h.2.1.trans h'.2.1.symm, h.2.2.1.trans h'.2.2.1.symm, h.2.2.2.trans h'.2.2.2.symm, h.1.trans h'.1.symm⟩
  | n + 1, _, _, _, _, _, _, _, _, ⟨q, k0, l0, md, c0, c1, h1, h2, h3, h4⟩, ⟨q', k0', l0', md', c0', c1', g1, g2, g3, g4⟩ => by
    obtain ⟨e1, e2, e3, e4⟩ := chq_un h1 g1
    subst e1 e2 e3 e4
    obtain ⟨e5, e6, e7⟩ := (clr_un h3 g3).2 rfl
    subst e5 e6
    rcases h4 with ⟨a1, a2, a3, a4⟩ | ⟨a1, a2, a3, a4⟩
    · rcases g4 with ⟨b1, b2, b3, b4⟩ | ⟨b1, b2, b3, b4⟩
      · exact ⟨a2.trans b2.symm, a3.trans b3.symm, a4.trans b4.symm, e7⟩
      · exact absurd a1 b1
    · rcases g4 with ⟨b1, b2, b3, b4⟩ | ⟨b1, b2, b3, b4⟩
      · exact absurd b1 a1
      · exact ⟨a2.trans b2.symm, a3.trans b3.symm, a4.trans b4.symm, e7⟩
theorem clr_pg {B : Nat → Int} {N k q p : Int} {c : List Int} (h : CLR B N k q 0 3 c p) : ∃ r, PGR B N 3 [] (sk B N (wdE B N q)) 0 (0, c, r) := by
  rcases h with ⟨z, _⟩ | ⟨-, ⟨_, z⟩ | ⟨-, r, r1, h⟩⟩
  · exact absurd z (by decide)
  · exact absurd z (by decide)
  · rcases h with ⟨z1, z2⟩ | ⟨_, _, z⟩ | ⟨z, _, _, e, _⟩
    · exact absurd z2.symm z1
    · exact absurd z (by decide)
    · refine ⟨r.2.2, ?_⟩
      have er : r = (0, c, r.2.2) := Prod.ext z (Prod.ext e.symm rfl)
      rw [← er]; exact r1
theorem chq_ld {B : Nat → Int} {N : Int} : ∀ {n : Nat} {p k : Int} {c : List Int} {la : Int}, CHQ B N n p k c la → (k = -1 ∧ la = -1) ∨ ((0 ≤ k ∧ k < (n : Int)) ∧ (0 ≤ la ∧ la ≤ N) ∧ ∃ r, PGR B N 3 [] (sk B N la) 0 (0, c, r))
  | 0, _, _, _, _, h => Or.inl ⟨h.2.1, h.2.2.2⟩
  | n + 1, _, _, _, _, ⟨q, k0, l0, md, c0, c1, h1, h2, h3, h4⟩ => by
    rcases h4 with ⟨a1, a2, a3, a4⟩ | ⟨a1, a2, a3, a4⟩
    · subst a1 a2 a3 a4
      have w := (wd_lo (B := B) (N := N) (p := q) _ (Nat.le_refl _))
      exact Or.inr ⟨by first | exact And.intro (oq_a3593015) (oq_f6610f58) | omega, by first | exact And.intro (oq_12a1f9e1 w.1 h2.1) (oq_92c58319 w.2 h2.2) | omega, clr_pg h3⟩
    · subst a2 a3 a4
      rcases chq_ld h1 with z | ⟨z1, z2, z3⟩
      · exact Or.inl z
      · exact Or.inr ⟨by omega, z2, z3⟩
/-- a text of rules that is taken: e clauses -/
def RUQ (B : Nat → Int) (N e k : Int) (c : List Int) (la : Int) : Prop := ∃ (n : Nat) (p : Int), CHQ B N n p k c la ∧ N ≤ p ∧ e = (n : Int)
theorem ruq_un {B : Nat → Int} {N e k la k' la' : Int} {c c' : List Int} (h : RUQ B N e k c la) (h' : RUQ B N e k' c' la') : k = k' ∧ c = c' ∧ la = la' := by
  obtain ⟨n, p, h1, h2, h3⟩ := h
  obtain ⟨n', p', g1, g2, g3⟩ := h'
  have z : n = n' := by first | exact oq_736a7c87 g3 h3 | omega
  subst z
  obtain ⟨a, b, d, -⟩ := chq_un h1 g1
  exact ⟨a, b, d⟩
theorem ruq_a {B : Nat → Int} {N e k la : Int} {c : List Int} (h : RUQ B N e k c la) : RUA B N e := by
  obtain ⟨n, p, h1, h2, h3⟩ := h
  exact ⟨0, n, ⟨p, chq_n h1, Or.inl ⟨rfl, h2⟩⟩, Or.inl ⟨rfl, h3⟩⟩
/-- class and model hold the same load -/
def RLJ (s : PS) : Prop := ∃ L : LdF, LDC L s ∧ LDM L s ∧ (iI s 15 = 0 → noC L)
theorem RLJ_fm {L M : List Nat} {s t : PS} (F : Fm L M s t) (h : (85 ∉ L ∧ 82 ∉ L ∧ 158 ∉ M) ∧ (13 ∉ L ∧ 15 ∉ L) ∧ 17 ∉ M ∧ 16 ∉ M) (r : RLJ s) : RLJ t := by
  obtain ⟨L', r1, r2, r3⟩ := r
  refine ⟨L', ?_, LDM_fm F h.1 r2, fun q => r3 (by rw [← fm_i F h.2.1.2]; exact q)⟩
  unfold LDC
  rw [fm_i F h.2.1.1, cdl_fm F h.2.2.1 h.2.2.2]
  exact r1
/-- what the class has adopted -/
def RLC (B : Nat → Int) (N e : Int) (t : PS) : Prop := ∃ (c : List Int) (la : Int), RUQ B N e (iI t 13) c la ∧ (iI t 13 ≠ -1 → cdL t (iI t 13) = c ∧ (iI t 15 = 0 → NCC c))
/-- what the model has taken -/
def RLM (B : Nat → Int) (N e : Int) (t : PS) : Prop := ∃ (k : Int) (c : List Int), RUQ B N e k c (iI t 85) ∧ iI t 82 = N ∧ ∀ j : Nat, (j : Int) < N → iC t 158 j = B j
theorem rlj_new {B : Nat → Int} {N e : Int} {t : PS} (h : RLC B N e t) (g : RLM B N e t) : RLJ t := by
  obtain ⟨c, la, h1, h2⟩ := h
  obtain ⟨k, c', g1, g2, g3⟩ := g
  obtain ⟨e1, e2, e3⟩ := ruq_un h1 g1
  obtain ⟨n, p, q1, q2, q3⟩ := g1
  rcases chq_ld q1 with ⟨z1, z2⟩ | ⟨z1, z2, r, z3⟩
  · exact ⟨ldD, Or.inl ⟨by first | exact oq_bc238e02 z1 e1 | omega, rfl⟩, Or.inl ⟨z2, rfl⟩, fun _ => noc_d⟩
  · have w := h2 (by first | exact oq_af1c4d12 z1.1 e1 | omega)
    have wf := pgr_wf (by decide) z3
    rw [← e2] at wf z3
    refine ⟨ldO c, Or.inr ⟨by first | exact oq_af1c4d12 z1.1 e1 | omega, fun nm => by rw [w.1]; exact ldo_vl wf nm⟩, Or.inr ⟨B, by rw [g2]; exact z2, by rw [g2]; exact g3, c, r, by rw [g2]; exact z3, ldo_vl wf⟩, fun q => noc_o (w.2 q)⟩
/-! Clauses read one after another, with the last load -/
def bgD (s : PS) (x : Int) : Int := if 0 < x then iC s 19 (x - 1).toNat else 0
def drL (s : PS) (x : Int) : List Int := (List.range (iC s 19 x.toNat - bgD s x).toNat).map (fun j => iC s 18 ((bgD s x).toNat + j))
/-- the class's draft after n clauses -/
def CQD (B : Nat → Int) (N n : Int) (s : PS) : Prop := bgD s n = iI s 16 ∧ (∀ j : Nat, (j : Int) < n → 0 ≤ iC s 19 j ∧ iC s 19 j ≤ iI s 16) ∧ ∃ (c : List Int) (la : Int), CHQ B N n.toNat (iI s 4) (iI s 17) c la ∧ (iI s 17 = -1 ∨ ((0 ≤ iI s 17 ∧ iI s 17 < n) ∧ drL s (iI s 17) = c))
/-- a clause of the class's: read, its codes in the draft -/
def CLD (B : Nat → Int) (N x : Int) (s t : PS) (e : Int) : Prop := ∃ (f : Int) (md : Nat) (c : List Int) (q : Int), CLR B N x (iI s 4) f md c q ∧ ((e = 1 ∧ f = 0 ∧ iI t 4 = q ∧ DL t = DL s ++ c ∧ UPD 19 x (iI t 16) s t ∧ ((md = 3 ∧ iI t 17 = x) ∨ (md ≠ 3 ∧ iI t 17 = iI s 17))) ∨ (e = 0 ∧ f ≠ 0 ∧ iI t 7 = f))
theorem cld_c {B : Nat → Int} {N x e : Int} {s t : PS} (h : CLD B N x s t e) : CLC B N x s t e := by
  obtain ⟨f, md, c, q, h1, h2 | h2⟩ := h
  · exact ⟨f, md, c, q, h1, Or.inl ⟨h2.1, h2.2.1, h2.2.2.1⟩⟩
  · exact ⟨f, md, c, q, h1, Or.inr h2⟩
theorem cld_no {B : Nat → Int} {N x : Int} {s t : PS} (h : CLC B N x s t 0) : CLD B N x s t 0 := by
  obtain ⟨f, md, c, q, h1, h2 | h2⟩ := h
  · exact absurd h2.1 (by decide)
  · exact ⟨f, md, c, q, h1, Or.inr h2⟩
theorem cld_of {B : Nat → Int} {N x e1 : Int} {md : Nat} {s a b c u : PS} (hw : (whV B N (iI s 4) = 247162 ∧ md = 3) ∨ (whV B N (iI s 4) = 208022 ∧ md = 8)) (hk : x < 8) (ha : DL a = DL s) (hr : RDc B N md (sk B N (wdE B N (iI s 4))) 0 (DL a) b e1) (he : e1 ≠ 0) (hs : PSS B N 59 b c 1) (h1 : iI u 4 = iI c 4) (h2 : DL u = DL b) (h3 : UPD 19 x (iI u 16) s u) (h4 : (md = 3 ∧ iI u 17 = x) ∨ (md ≠ 3 ∧ iI u 17 = iI s 17)) : CLD B N x s u 1 := by
  obtain ⟨r, r1, r2⟩ := hr
  rcases r2 with ⟨f0, z, q, d⟩ | ⟨f0, _, _⟩
  · rcases hs with ⟨c0, c1, c2⟩ | ⟨c0, _, _⟩
    · rw [q] at c1 c2
      exact ⟨0, md, r.2.1, sk B N (r.2.2 + 1), Or.inr ⟨hw, Or.inr ⟨hk, r, r1, Or.inr (Or.inr ⟨z, c1, rfl, rfl, rfl⟩)⟩⟩, Or.inl ⟨rfl, rfl, by rw [h1, c2], by rw [h2, d, ha], h3, h4⟩⟩
    · exact absurd c0 (by decide)
  · exact absurd f0 he
theorem dl_seg {t u : PS} {c : List Int} (h : DL u = DL t ++ c) (t0 : 0 ≤ iI t 16) (u0 : 0 ≤ iI u 16) : iI t 16 ≤ iI u 16 ∧ (∀ j : Nat, (j : Int) < iI t 16 → iC u 18 j = iC t 18 j) ∧ (List.range (iI u 16 - iI t 16).toNat).map (fun j => iC u 18 ((iI t 16).toNat + j)) = c := by
  have l := congrArg List.length h
  rw [List.length_append] at l
  have l1 := DL_len t0
  have l2 := DL_len u0
  have le : iI t 16 ≤ iI u 16 := by first | exact oq_92f3ec72 l2 l1 l | omega
  unfold DL at h
  rw [show (iI u 16).toNat = (iI t 16).toNat + (iI u 16 - iI t 16).toNat by first | exact oq_849c986d le u0 t0 | omega, List.range_add, List.map_append] at h
  obtain ⟨h1, h2⟩ := List.append_inj h (by rw [List.length_map, List.length_map])
  refine ⟨le, fun j hj => List.map_inj_left.mp h1 j (List.mem_range.mpr (by first | exact oq_bbbf5d6d hj | omega)), ?_⟩
  rw [List.map_map] at h2
  exact h2
theorem drl_k {t u : PS} {k m : Int} (hk : 0 ≤ k ∧ k < m) (he : ∀ j : Nat, (j : Int) < m → 0 ≤ iC t 19 j ∧ iC t 19 j ≤ iI t 16) (h1 : ∀ j : Nat, (j : Int) < m → iC u 19 j = iC t 19 j) (h2 : ∀ j : Nat, (j : Int) < iI t 16 → iC u 18 j = iC t 18 j) : drL u k = drL t k := by
  have e1 : iC u 19 k.toNat = iC t 19 k.toNat := h1 _ (by first | exact oq_084ea114 hk.2 hk.1 | omega)
  have e2 : bgD u k = bgD t k := by
    unfold bgD
    by_cases z : 0 < k
    · rw [if_pos z, if_pos z]; exact h1 _ (by first | exact oq_2e24a498 z hk.2 | omega)
    · rw [if_neg z, if_neg z]
  have b0 : 0 ≤ bgD t k := by
    unfold bgD
    by_cases z : 0 < k
    · rw [if_pos z]; exact (he _ (by first | exact oq_2e24a498 z hk.2 | omega)).1
    · rw [if_neg z]; exact Int.le_refl _
  have r := he k.toNat (by first | exact oq_084ea114 hk.2 hk.1 | omega)
  unfold drL
  rw [e1, e2]
  exact List.map_congr_left (fun j hj => h2 _ (by have := List.mem_range.mp hj; omega))
theorem cqd_0 {B : Nat → Int} {N : Int} {s : PS} (h1 : iI s 4 = sk B N 0) (h2 : iI s 17 = -1) (h3 : iI s 16 = 0) : CQD B N 0 s := ⟨by rw [h3]; rfl, fun j hj => absurd hj (by first | exact oq_625ee044 | omega), [], -1, ⟨h1, h2, rfl, rfl⟩, Or.inl h2⟩
theorem cqd_up {B : Nat → Int} {N n e : Int} {t u : PS} (h : CQD B N n t) (n0 : 0 ≤ n) (hp : 0 ≤ iI t 4 ∧ iI t 4 < N) (t0 : 0 ≤ iI t 16) (u0 : 0 ≤ iI u 16) (hc : CLD B N n t u e) (he : e ≠ 0) : CQD B N (n + 1) u := by
  obtain ⟨a1, a2, c0, la, a3, a4⟩ := h
  obtain ⟨f, md, c, q, b1, b2 | b2⟩ := hc
  · obtain ⟨-, b3, b4, b5, b6, b7⟩ := b2
    subst b3
    obtain ⟨d1, d2, d3⟩ := dl_seg b5 t0 u0
    have ee : ∀ j : Nat, (j : Int) < n → iC u 19 j = iC t 19 j := fun j hj => b6.2 j (by first | exact oq_27fc5cdc hj | omega)
    have en : ((n.toNat : Nat) : Int) = n := by first | exact oq_94c0d625 n0 | omega
    refine ⟨?_, fun j hj => ?_, ?_⟩
    · unfold bgD
      rw [if_pos (by first | exact oq_7a276f11 n0 | omega), show (n + 1 - 1).toNat = n.toNat by first | exact oq_395b99c4 en n0 | omega]
      exact b6.1
    · by_cases z : j = n.toNat
      · rw [z, b6.1]; omega
      · rw [ee j (by first | exact oq_09e9a4f0 z hj en | omega)]
        have := a2 j (by first | exact oq_09e9a4f0 z hj en | omega)
        omega
    · rcases b7 with ⟨m1, m2⟩ | ⟨m1, m2⟩
      · refine ⟨c, wdE B N (iI t 4), ?_, Or.inr ⟨by first | exact And.intro (oq_e4757433 m2 n0) (oq_748c1749 m2) | omega, ?_⟩⟩
        · rw [show (n + 1).toNat = n.toNat + 1 by first | exact oq_225ea673 en n0 | omega, b4, m2]
          exact ⟨_, _, _, md, c0, c, a3, hp, by rw [en]; exact b1, Or.inl ⟨m1, en.symm, rfl, rfl⟩⟩
        · rw [m2]
          have eb : bgD u n = iI t 16 := by
            rw [← a1]
            unfold bgD
            by_cases z : 0 < n
            · rw [if_pos z, if_pos z]; exact ee _ (by first | exact oq_09087e7c z | omega)
            · rw [if_neg z, if_neg z]
          unfold drL
          rw [eb, b6.1]
          exact d3
      · refine ⟨c0, la, ?_, ?_⟩
        · rw [show (n + 1).toNat = n.toNat + 1 by first | exact oq_225ea673 en n0 | omega, b4, m2]
          exact ⟨_, _, _, md, c0, c, a3, hp, by rw [en]; exact b1, Or.inr ⟨m1, rfl, rfl, rfl⟩⟩
        · rw [m2]
          rcases a4 with a4 | ⟨a4, a5⟩
          · exact Or.inl a4
          · exact Or.inr ⟨by first | exact And.intro (a4.1) (oq_d130ae0d a4.2) | omega, (drl_k a4 a2 ee d2).trans a5⟩
  · exact absurd b2.1 he
theorem cqd_n {B : Nat → Int} {N n : Int} {t : PS} (h : CQD B N n t) : CHN B N n.toNat (iI t 4) := by
  obtain ⟨-, -, c, la, a3, -⟩ := h
  exact chq_n a3
/-- adopted: the draft's rows are the rules' rows now -/
def ADP (s t : PS) : Prop := (∀ j : Nat, iC t 16 j = iC s 18 j) ∧ (∀ j : Nat, iC t 17 j = iC s 19 j) ∧ iI t 13 = iI s 17 ∧ (iI t 15 = 0 → iI t 13 ≠ -1 → NCC (cdL t (iI t 13)))
theorem adp_l {s t : PS} {x : Int} (h : ADP s t) : cdL t x = drL s x := by
  unfold cdL drL bgV bgD
  simp only [h.1, h.2.1]
theorem rlc_of {B : Nat → Int} {N n : Int} {s t : PS} (h : CQD B N n s) (n0 : 0 ≤ n) (hp : N ≤ iI s 4) (ha : ADP s t) : RLC B N n t := by
  obtain ⟨-, -, c, la, a3, a4⟩ := h
  have e := ha.2.2.1
  refine ⟨c, la, ⟨n.toNat, _, by rw [e]; exact a3, hp, by first | exact oq_06748ff4 n0 | omega⟩, fun q => ?_⟩
  have el : cdL t (iI t 13) = c := by
    rw [adp_l ha, e]
    rcases a4 with a4 | a4
    · exact absurd (e.trans a4) q
    · exact a4.2
  exact ⟨el, fun z => by rw [← el]; exact ha.2.2.2 z q⟩
/-- codes that count no cells, so far -/
def NFQ (s : PS) (b c : Int) (t : PS) : Prop := iI t 15 = 0 → ∀ j : Nat, b ≤ (j : Int) → (j : Int) < c → iC s 16 j ≠ -5 ∧ iC s 16 j ≠ -6
theorem nfq_0 {s t : PS} {b : Int} : NFQ s b b t := fun _ j h1 h2 => absurd h2 (by first | exact oq_04f27f6f h1 | omega)
theorem nfq_up {s t u : PS} {b c v : Int} (h : NFQ s b c t) (c0 : 0 ≤ c) (hv : v = 0 → iI t 15 = 0 ∧ iC s 16 c.toNat ≠ -5 ∧ iC s 16 c.toNat ≠ -6) (hu : iI u 15 = v) : NFQ s b (c + 1) u := fun q j h1 h2 => by
  obtain ⟨z1, z2⟩ := hv (hu.symm.trans q)
  by_cases e : j = c.toNat
  · rw [e]; exact z2
  · exact h z1 j h1 (by first | exact oq_d0f089f6 e h2 | omega)
theorem nfq_e {s t : PS} {c k : Int} (h : NFQ s (bgV s k) c t) (b0 : 0 ≤ bgV s k) (hk : iI t 13 = k) (hc : iC t 17 (iI t 13).toNat ≤ c) (he : ∀ j : Nat, iC t 17 j = iC s 17 j) (hs : ∀ j : Nat, iC t 16 j = iC s 16 j) (q : iI t 15 = 0) : NCC (cdL t (iI t 13)) := fun x hx => by
  rw [hk] at hc hx
  have eb : bgV t k = bgV s k := by
    unfold bgV
    rw [he]
  unfold cdL at hx
  rw [eb] at hx
  obtain ⟨j, j1, j2⟩ := List.mem_map.mp hx
  have := List.mem_range.mp j1
  rw [← j2, hs]
  exact h q _ (by first | exact oq_287e5c5c | omega) (by first | exact oq_8025e2ba this hc b0 | omega)
theorem DL_sam {s t : PS} (h1 : iI t 16 = iI s 16) (h2 : ∀ j : Nat, iC t 18 j = iC s 18 j) : DL t = DL s := by
  unfold DL
  rw [h1]
  exact List.map_congr_left (fun j _ => h2 j)
theorem bgv_s {s t : PS} {k : Int} (he : ∀ j : Nat, iC t 17 j = iC s 17 j) : bgV t k = bgV s k := by
  unfold bgV
  rw [he]
theorem rcp_up {B : Nat → Int} {t u : PS} {c v : Int} (h : ∀ j : Nat, (j : Int) < c → iC t 158 j = B j) (c0 : 0 ≤ c) (hu : UPD 158 c v t u) (hv : v = B c.toNat) : ∀ j : Nat, (j : Int) < c + 1 → iC u 158 j = B j := fun j hj => by
  by_cases e : j = c.toNat
  · rw [e, hu.1, hv]
  · rw [hu.2 j e]; exact h j (by first | exact oq_d0f089f6 e hj | omega)
theorem or_b {a b e : Int} (ha : 0 ≤ a ∧ a ≤ 1) (hb : 0 ≤ b ∧ b ≤ 1) (he : rng e) (h : Int32.ofInt e = Int32.ofInt a ||| Int32.ofInt b) : (0 ≤ e ∧ e ≤ 1) ∧ (e = 0 → a = 0 ∧ b = 0) := by
  have q := congrArg Int32.toInt h
  rw [zi he] at q
  rcases (show a = 0 ∨ a = 1 by first | exact oq_31e518ae ha.2 ha.1 | omega) with z | z <;> rcases (show b = 0 ∨ b = 1 by first | exact Or.inl (oq_7ad6ed8e z z) | omega) with y | y <;> subst z y
  · have w : (Int32.ofInt 0 ||| Int32.ofInt 0).toInt = 0 := by decide
    omega
  · have w : (Int32.ofInt 0 ||| Int32.ofInt 1).toInt = 1 := by decide
    omega
  · have w : (Int32.ofInt 1 ||| Int32.ofInt 0).toInt = 1 := by decide
    omega
  · have w : (Int32.ofInt 1 ||| Int32.ofInt 1).toInt = 1 := by decide
    omega
/-- a clause of the model's, with where its load begins -/
def CLN (B : Nat → Int) (N : Int) (s t : PS) : Prop := ∃ (f : Int) (md : Nat) (c : List Int) (q : Int), CLR B N (iI s 86) (sk B N (iI s 77)) f md c q ∧ ((iI t 79 = 0 ∧ f = 0 ∧ sk B N (iI t 77) = q ∧ ((md = 3 ∧ iI t 88 = wdE B N (sk B N (iI s 77))) ∨ (md ≠ 3 ∧ iI t 88 = iI s 88))) ∨ (iI t 79 ≠ 0 ∧ iI t 79 = f))
theorem cln_no {B : Nat → Int} {N : Int} {s t : PS} (h : CLM B N s t) (hf : iI t 79 ≠ 0) : CLN B N s t := by
  obtain ⟨f, md, c, q, h1, h2 | h2⟩ := h
  · exact absurd h2.1 hf
  · exact ⟨f, md, c, q, h1, Or.inr h2⟩
theorem cln_of {B : Nat → Int} {N p : Int} {md : Nat} {s b c u : PS} (hp : p = sk B N (iI s 77)) (hw : (whV B N p = 247162 ∧ md = 3) ∨ (whV B N p = 208022 ∧ md = 8)) (hk : iI s 86 < 8) (hou : OUm B N md (sk B N (wdE B N p)) 0 b) (hs : (iI b 79 ≠ 0 ∧ iI u 79 = iI b 79) ∨ (iI b 79 = 0 ∧ SGN B N 59 b c ∧ iI u 79 = iI c 79 ∧ iI u 77 = iI c 77)) (hl : (md = 3 ∧ iI u 88 = wdE B N p) ∨ (md ≠ 3 ∧ iI u 88 = iI s 88)) : CLN B N s u := by
  have h := clm_of hp hw hk hou hs
  by_cases z : iI u 79 = 0
  · subst hp
    obtain ⟨r, r1, r2⟩ := hou
    rcases r2 with ⟨f0, y, q⟩ | ⟨f0, y⟩
    · rcases hs with hs | ⟨-, hs, hf, ha⟩
      · exact absurd f0 hs.1
      · rcases hs with ⟨c1, c2, c3⟩ | ⟨c1, c2, c3⟩
        · rw [q] at c1 c2
          exact ⟨0, md, r.2.1, sk B N (r.2.2 + 1), Or.inr ⟨hw, Or.inr ⟨hk, r, r1, Or.inr (Or.inr ⟨y, c1, rfl, rfl, rfl⟩)⟩⟩, Or.inl ⟨z, rfl, by rw [ha, c2], hl⟩⟩
        · omega
    · rcases hs with hs | hs
      · omega
      · exact absurd hs.1 f0
  · exact cln_no h z
/-- clauses of the model's so far -/
def CHO (B : Nat → Int) (N : Int) (t : PS) : Prop := (iI t 79 = 0 ∧ ∃ (k : Int) (c : List Int), CHQ B N (iI t 86).toNat (sk B N (iI t 77)) k c (iI t 88)) ∨ (iI t 79 ≠ 0 ∧ ∃ n : Nat, RUL B N (iI t 79) n)
theorem cho_0 {B : Nat → Int} {N : Int} {t : PS} (h : iI t 79 = 0) (h1 : iI t 86 = 0) (h2 : sk B N (iI t 77) = sk B N 0) (h3 : iI t 88 = -1) : CHO B N t := Or.inl ⟨h, -1, [], by rw [h1]; exact ⟨h2, rfl, rfl, h3⟩⟩
theorem cho_mv {B : Nat → Int} {N : Int} {t u : PS} (h : CHO B N t) (h1 : iI u 79 = iI t 79) (h2 : iI u 86 = iI t 86) (h3 : sk B N (iI u 77) = sk B N (iI t 77)) (h4 : iI u 88 = iI t 88) : CHO B N u := by
  unfold CHO
  rw [h1, h2, h3, h4]
  exact h
theorem cho_up {B : Nat → Int} {N : Int} {t u : PS} (h : CHO B N t) (hf : iI t 79 = 0) (h0 : 0 ≤ iI t 86) (hp : 0 ≤ sk B N (iI t 77) ∧ sk B N (iI t 77) < N) (hc : CLN B N t u) (hn : iI u 79 = 0 → iI u 86 = iI t 86 + 1) : CHO B N u := by
  rcases h with ⟨-, k0, c0, h⟩ | h
  · obtain ⟨f, md, c, q, h1, h2⟩ := hc
    have ec : (((iI t 86).toNat : Nat) : Int) = iI t 86 := by first | exact oq_94c0d625 h0 | omega
    rcases h2 with ⟨a, b, d, w⟩ | ⟨a, b⟩
    · subst b
      rcases w with ⟨w1, w2⟩ | ⟨w1, w2⟩
      · refine Or.inl ⟨a, iI t 86, c, ?_⟩
        rw [hn a, show (iI t 86 + 1).toNat = (iI t 86).toNat + 1 by first | exact oq_225ea673 ec h0 | omega, d, w2]
        exact ⟨_, _, _, md, c0, c, h, hp, by rw [ec]; exact h1, Or.inl ⟨w1, ec.symm, rfl, rfl⟩⟩
      · refine Or.inl ⟨a, k0, c0, ?_⟩
        rw [hn a, show (iI t 86 + 1).toNat = (iI t 86).toNat + 1 by first | exact oq_225ea673 ec h0 | omega, d, w2]
        exact ⟨_, _, _, md, c0, c, h, hp, by rw [ec]; exact h1, Or.inr ⟨w1, rfl, rfl, rfl⟩⟩
    · exact Or.inr ⟨a, (iI t 86).toNat, _, chq_n h, Or.inr ⟨a, hp.2, md, c, q, by rw [ec, b]; exact h1⟩⟩
  · exact absurd hf h.1
theorem cho_bad {B : Nat → Int} {N : Int} {t : PS} (h : CHO B N t) {e : Int} (h1 : iI t 79 ≠ 0 ∧ e = iI t 79 - 10) : RUA B N e := by
  rcases h with ⟨a, _⟩ | ⟨a, n, h⟩
  · exact absurd a h1.1
  · exact ⟨_, n, h, Or.inr ⟨a, h1.2⟩⟩
theorem cho_end {B : Nat → Int} {N : Int} {t : PS} (h : CHO B N t) (h0 : 0 ≤ iI t 86) (hf : iI t 79 = 0) (he : N ≤ iI t 77) : ∃ (k : Int) (c : List Int), RUQ B N (iI t 86) k c (iI t 88) := by
  rcases h with ⟨a, k, c, h⟩ | ⟨a, _⟩
  · have z := sk_le (B := B) (N := N) (p := iI t 77)
    exact ⟨k, c, (iI t 86).toNat, _, h, by first | exact oq_f8a2cf0e z he | omega, by first | exact oq_06748ff4 h0 | omega⟩
  · exact absurd hf a
section M87k4
variable {l : Launch} {s0 : State} {D : va_G} {tys : List (ClassId × FieldType)} {a0 : Array Value} {A : Nat → Nat} {dT : Nat → ClassId} {s : PS}
set_option maxRecDepth 4000 in
theorem k_clause4 (G : GX l s0 D tys a0 dT) {B : Nat → Int} {N : Int} (I : Bd s) (jFDB : FDB B N s) (p0 : iI s 79 = 0) (p1 : iI s 78 = 0) (p2 : iI s 77 ≤ iI s 75) (p3 : iI s 87 ≤ iI s 86) : CT l s0 D A dT 213 (rmN 213) [.ref (A 179)] s (fun o t => Bd t ∧ Fm [77, 79, 80, 78, 86, 87, 88] [160] s t ∧ FDB B N t ∧ o = .inl none ∧ (iI t 78 = 0 ∧ iI s 77 ≤ iI t 77 ∧ iI t 77 ≤ 203 ∧ (iI t 79 = 0 → iI s 77 < iI t 77 ∧ iI t 77 ≤ iI s 75) ∧ iI t 87 ≤ iI t 86 ∧ (iI t 79 = 0 → iI t 86 = iI s 86 + 1) ∧ CLN B N s t)) := by
  refine ct_of G (by decide) (Nat.le_of_ble_eq_true rfl) (fun k X E hRt hXt q => ?_)
  show WS k 0 [(0, .ref (A 179))] [] _ 0 0
  have F : Fm [77, 79, 80, 78, 86, 87, 88] [160] s s := fm_rf _ _ s
  have hN := jFDB.2.1
  have hW := jFDB.2.2
  have b1 := bi_77 I
  have b2 := bi_75 I
  have b3 := bi_79 I
  have b4 := bi_78 I
  have b5 := bi_86 I
  have b6 := bi_87 I
  have b7 := bi_88 I
  refine z_aload_n X (x := A 179) rfl (List.Mem.head _) (zcV_i1 X E 179 (As := []) (st := []) rfl rfl rfl rfl (k_wordHere3 G I jFDB (by first | exact oq_8bddf595 p2 b2.2 | omega)) rfl (Nat.le_of_ble_eq_true rfl) (fun s8 e9 Is8 Fs8 JFDB_s8 hrs8 hps8 => ?_))
  have hps8p := And.intro hps8.1 (And.intro hps8.2.1 (hps8.2.2.1))
  have Gs8 := fm_tq F Fs8 rfl rfl
  have JFDB_s8 : FDB B N s8 := FDB_fm Fs8 (by decide) jFDB
  have b10 := bi_77 Is8
  have ws8_75 : iI s8 75 = iI s 75 := fm_iq Fs8 rfl
  have ws8_79 : iI s8 79 = iI s 79 := fm_iq Fs8 rfl
  have ws8_78 : iI s8 78 = iI s 78 := fm_iq Fs8 rfl
  have ws8_86 : iI s8 86 = iI s 86 := fm_iq Fs8 rfl
  have ws8_87 : iI s8 87 = iI s 87 := fm_iq Fs8 rfl
  have ws8_88 : iI s8 88 = iI s 88 := fm_iq Fs8 rfl
  have hwv : e9 = whV B N (sk B N (iI s 77)) := by rw [hps8.2.1, hps8.1]
  have hb0 : iI s8 77 = (sk B N (iI s 77)) := hps8.1
  refine z_store_n X (lv' := [(1, .int (Int32.ofInt e9)), (0, .ref (A 179))]) rfl (by decide) (fun _ h => h) (z_load_n X (x := e9) rfl (List.Mem.head _) (z_bipush X rfl (z_bipush X rfl (z_const X rfl (z_const X rfl (z_const X rfl (z_const X rfl (z_callS X (rm := rmN 202) (As := [.int (Int32.ofInt 12), .int (Int32.ofInt 15), .int (Int32.ofInt 1), .int (Int32.ofInt 4), .int (Int32.ofInt 0), .int (Int32.ofInt 0)]) (st := [.int (Int32.ofInt e9)]) rfl rfl (by rw [E.1, E.2.1, E.2.2.1]; exact k_word3 G Is8 (by first | exact ⟨by decide, by decide⟩ | omega) (by first | exact ⟨by decide, by decide⟩ | omega) (by first | exact ⟨by decide, by decide⟩ | omega) (by first | exact ⟨by decide, by decide⟩ | omega) (by first | exact ⟨by decide, by decide⟩ | omega) (by first | exact ⟨by decide, by decide⟩ | omega)) ⟨by rw [E.2.2.2]; exact (show (rmN 202).frames + 1 ≤ (rmN 213).frames by decide), by rw [E.2.2.2]; exact (show 8 + (mNL (miB 202) + 11) + (rmN 202).locals ≤ (rmN 213).locals by decide), by rw [E.2.2.2]; exact (show 0 + (rmN 202).cells ≤ (rmN 213).cells by decide), by rw [E.2.2.2]; exact (show 0 + (rmN 202).slots ≤ (rmN 213).slots by decide)⟩ (Nat.le_of_ble_eq_true rfl) (fun vv s11 hq => ?_) (fun ee s11 hq => ?_)))))))))
  rotate_left
  · obtain ⟨rfl, e12, hv, hrs11, hps11⟩ := hq; cases hv
  obtain ⟨rfl, e12, hv, hrs11, hps11⟩ := hq
  cases hv
  show WS k 17 [(1, .int (Int32.ofInt e9)), (0, .ref (A 179))] [.int (Int32.ofInt e12), .int (Int32.ofInt e9)] (Wd A dT s8) 0 0
  have hk13 : e12 = 247162 := by rw [hps11.2]; decide
  have N14 : ∀ e15 : Int, (((e9 ≠ e12) ∧ e15 = 0) ∨ ((e9 = e12) ∧ e15 = 1)) → WS k 25 [(1, .int (Int32.ofInt e9)), (0, .ref (A 179))] [.int (Int32.ofInt e15)] (Wd A dT s8) 0 0 := by
    intro e15 he15
    have re15 : 0 ≤ e15 ∧ e15 ≤ 1 := by first | exact And.intro (oq_9b165878 he15) (oq_44589019 he15) | (clear he15 hps8; omega) | (clear hps8; omega) | omega
    refine z_store_n X (lv' := [(2, .int (Int32.ofInt e15)), (1, .int (Int32.ofInt e9)), (0, .ref (A 179))]) rfl (by decide) (fun _ h => h) (z_load_n X (x := e9) rfl (List.Mem.tail _ (List.Mem.head _)) (z_bipush X rfl (z_bipush X rfl (z_bipush X rfl (z_bipush X rfl (z_const X rfl (z_const X rfl (z_callS X (rm := rmN 202) (As := [.int (Int32.ofInt 10), .int (Int32.ofInt 15), .int (Int32.ofInt 9), .int (Int32.ofInt 14), .int (Int32.ofInt 0), .int (Int32.ofInt 0)]) (st := [.int (Int32.ofInt e9)]) rfl rfl (by rw [E.1, E.2.1, E.2.2.1]; exact k_word3 G Is8 (by first | exact ⟨by decide, by decide⟩ | omega) (by first | exact ⟨by decide, by decide⟩ | omega) (by first | exact ⟨by decide, by decide⟩ | omega) (by first | exact ⟨by decide, by decide⟩ | omega) (by first | exact ⟨by decide, by decide⟩ | omega) (by first | exact ⟨by decide, by decide⟩ | omega)) ⟨by rw [E.2.2.2]; exact (show (rmN 202).frames + 1 ≤ (rmN 213).frames by decide), by rw [E.2.2.2]; exact (show 8 + (mNL (miB 202) + 11) + (rmN 202).locals ≤ (rmN 213).locals by decide), by rw [E.2.2.2]; exact (show 0 + (rmN 202).cells ≤ (rmN 213).cells by decide), by rw [E.2.2.2]; exact (show 0 + (rmN 202).slots ≤ (rmN 213).slots by decide)⟩ (Nat.le_of_ble_eq_true rfl) (fun vv s16 hq => ?_) (fun ee s16 hq => ?_)))))))))
    rotate_left
    · obtain ⟨rfl, e17, hv, hrs16, hps16⟩ := hq; cases hv
    obtain ⟨rfl, e17, hv, hrs16, hps16⟩ := hq
    cases hv
    show WS k 40 [(2, .int (Int32.ofInt e15)), (1, .int (Int32.ofInt e9)), (0, .ref (A 179))] [.int (Int32.ofInt e17), .int (Int32.ofInt e9)] (Wd A dT s8) 0 0
    have hk18 : e17 = 208022 := by rw [hps16.2]; decide
    have N19 : ∀ e20 : Int, (((e9 ≠ e17) ∧ e20 = 0) ∨ ((e9 = e17) ∧ e20 = 1)) → WS k 48 [(2, .int (Int32.ofInt e15)), (1, .int (Int32.ofInt e9)), (0, .ref (A 179))] [.int (Int32.ofInt e20)] (Wd A dT s8) 0 0 := by
      intro e20 he20
      have re20 : 0 ≤ e20 ∧ e20 ≤ 1 := by first | exact And.intro (oq_9b165878 he20) (oq_44589019 he20) | (clear he20 he15 hps8; omega) | (clear he15 hps8; omega) | omega
      refine z_store_n X (lv' := [(3, .int (Int32.ofInt e20)), (2, .int (Int32.ofInt e15)), (1, .int (Int32.ofInt e9)), (0, .ref (A 179))]) rfl (by decide) (fun _ h => h) (z_load_n X (x := e15) rfl (List.Mem.tail _ (List.Mem.head _)) (z_if_ne X (t := 69) rfl rfl ⟨by first | exact oq_fa4e5087 re15.1 | omega, by first | exact oq_22e1e6b0 re15.2 | omega⟩ (fun g21 => ?_) (fun g21 => ?_)))
      ·
        refine z_aload_n X (x := A 179) rfl (List.Mem.tail _ (List.Mem.tail _ (List.Mem.tail _ (List.Mem.head _)))) (z_getI X 179 rfl (c518_ok rfl) rfl rfl ?_)
        have b22 := bi_86 Is8
        refine z_bipush X rfl (z_icmp_ne X (t := 87) rfl rfl (rng_to _) (by decide) (fun g23 => ?_) (fun g23 => ?_))
        ·
          refine z_aload_n X (x := A 179) rfl (List.Mem.tail _ (List.Mem.tail _ (List.Mem.tail _ (List.Mem.head _)))) (z_getI X 179 rfl (c518_ok rfl) rfl rfl ?_)
          have b24 := bi_79 Is8
          refine z_if_eq X (t := 95) rfl rfl (rng_to _) (fun g25 => ?_) (fun g25 => ?_)
          ·
            refine z_aload_n X (x := A 179) rfl (List.Mem.tail _ (List.Mem.tail _ (List.Mem.tail _ (List.Mem.head _)))) (zcV_v1 X E 179 (As := []) (st := []) rfl rfl rfl rfl (k_skipWord3 G Is8 JFDB_s8 (by first | exact oq_7f354ec2 hps8.2.2.2 b2.2 hN p2 | (clear g23 g21 he20 he15 hps8; omega) | (clear g21 he20 he15 hps8; omega) | omega)) rfl (Nat.le_of_ble_eq_true rfl) (fun s26 Is26 Fs26 JFDB_s26 hps26 => ?_))
            have hps26p := And.intro hps26.1 (hps26.2.1)
            have Gs26 := fm_tq Gs8 Fs26 rfl rfl
            have JFDB_s26 : FDB B N s26 := FDB_fm Fs26 (by decide) JFDB_s8
            have b28 := bi_77 Is26
            have ws26_75 : iI s26 75 = iI s8 75 := fm_iq Fs26 rfl
            have ws26_79 : iI s26 79 = iI s8 79 := fm_iq Fs26 rfl
            have ws26_78 : iI s26 78 = iI s8 78 := fm_iq Fs26 rfl
            have ws26_86 : iI s26 86 = iI s8 86 := fm_iq Fs26 rfl
            have ws26_87 : iI s26 87 = iI s8 87 := fm_iq Fs26 rfl
            have ws26_88 : iI s26 88 = iI s8 88 := fm_iq Fs26 rfl
            have hsw : iI s26 77 = wdE B N (sk B N (iI s 77)) := by rw [hps26.1, show iI s8 77 = (sk B N (iI s 77)) by first | exact hb0 | (clear hps26 g23 g21 he20 he15 hps8; omega) | (clear g23 g21 he20 he15 hps8; omega) | omega]
            have hwz := wh_let (show whV B N (sk B N (iI s 77)) ≠ 0 by first | exact oq_d39b6a64 g21 re15.1 he15 hk13 hwv | (clear hps26 g23 g21 he20 he15 hps8; omega) | (clear g23 g21 he20 he15 hps8; omega) | omega)
            have hwg := wd_gt hwz.1 hwz.2.1 hwz.2.2
            refine z_load_n X (x := e15) rfl (List.Mem.tail _ (List.Mem.head _)) (z_if_eq X (t := 119) rfl rfl ⟨by first | exact oq_fa4e5087 re15.1 | omega, by first | exact oq_22e1e6b0 re15.2 | omega⟩ (fun g29 => ?_) (fun g29 => ?_))
            ·
              exfalso
              omega
            ·
              refine z_aload_n X (x := A 179) rfl (List.Mem.tail _ (List.Mem.tail _ (List.Mem.tail _ (List.Mem.head _)))) (z_aload_n X (x := A 179) rfl (List.Mem.tail _ (List.Mem.tail _ (List.Mem.tail _ (List.Mem.head _)))) (z_getI X 179 rfl (c518_ok rfl) rfl rfl ?_))
              have b30 := bi_77 Is26
              refine s_putI X 179 rfl (c518_ok rfl) rfl rfl (by decide) rfl rfl rfl (wd_gen (fun s31 hs31 => ?_))
              have Is31 : Bd s31 := eqB hs31 (bd_I Is26 (show ((-1) : Int) ≤ (iI s26 77) ∧ (iI s26 77) ≤ 200 by first | exact ⟨oq_ca54ea22 b30.1, by first | exact oq_bc0f03a9 hwz.1 hps26.2.2 hb0 b2.2 hN | (clear g29 hps26 g23 g21 he20 he15 hps8; omega) | (clear hps26 g23 g21 he20 he15 hps8; omega) | omega⟩ | omega) (rng_to _))
              have Fs31 := eqF hs31 (fm_I Gs26 (inl_ok (a := 88) rfl))
              have vs31 : iI s31 88 = (iI s26 77) := eqI hs31 (iI_u (rng_to _))
              have ws31_77 : iI s31 77 = iI s26 77 := eqI hs31 rfl
              have ws31_75 : iI s31 75 = iI s26 75 := eqI hs31 rfl
              have ws31_79 : iI s31 79 = iI s26 79 := eqI hs31 rfl
              have ws31_78 : iI s31 78 = iI s26 78 := eqI hs31 rfl
              have ws31_86 : iI s31 86 = iI s26 86 := eqI hs31 rfl
              have ws31_87 : iI s31 87 = iI s26 87 := eqI hs31 rfl
              have fs31 : Fm [88] [] s26 s31 := by rw [hs31]; exact fm_I (fm_rf _ _ _) (show 88 ∈ _ by decide)
              have JFDB_s31 : FDB B N s31 := FDB_fm fs31 (by decide) JFDB_s26
              refine z_aload_n X (x := A 179) rfl (List.Mem.tail _ (List.Mem.tail _ (List.Mem.tail _ (List.Mem.head _)))) (z_callV X 179 (rm := (rkR (3 * (7) + 2))) (As := []) (st := []) rfl rfl (by decide) rfl (by rw [E.1, E.2.1, E.2.2.1]; exact (k_sumr3 G (B := B) (N := N) 7).2.2 Is31 JFDB_s31 (by first | exact oq_29234f11 ws31_77 hwz.1 hps26.2.2 hb0 b2.2 hN | (clear g29 hps26 g23 g21 he20 he15 hps8; omega) | (clear hps26 g23 g21 he20 he15 hps8; omega) | omega) (by first | exact oq_250cf5e6 ws31_78 ws26_78 ws8_78 p1 b4.1 | omega) (by first | exact oq_9b88a94f ws31_78 ws26_78 ws8_78 p1 | omega)) ⟨by rw [E.2.2.2]; exact (show (12 + (3 * (7) + 2)) + 1 ≤ 60 from oq_ac0a0b68), by rw [E.2.2.2]; exact (show 8 + (4 + 11) + (500 + 45 * (3 * (7) + 2)) ≤ 2637 from oq_3899f1d8), by rw [E.2.2.2]; exact Nat.le_refl 0, by rw [E.2.2.2]; exact Nat.le_refl 0⟩ (Nat.le_of_ble_eq_true rfl) (fun vv s32 hq => ?_) (fun ee s32 hq => ?_))
              rotate_left
              · obtain ⟨Is32, Fs32, JFDB_s32, e33, hv, hrs32, hps32⟩ := hq; cases hv
              obtain ⟨Is32, Fs32, JFDB_s32, e33, hv, hrs32, hps32⟩ := hq
              cases hv
              have Gs32 := fm_tq Fs31 Fs32 rfl rfl
              have JFDB_s32 : FDB B N s32 := FDB_fm Fs32 (by decide) JFDB_s31
              have b34 := bi_77 Is32
              have ws32_75 : iI s32 75 = iI s31 75 := fm_iq Fs32 rfl
              have b35 := bi_79 Is32
              have b36 := bi_78 Is32
              have ws32_86 : iI s32 86 = iI s31 86 := fm_iq Fs32 rfl
              have ws32_87 : iI s32 87 = iI s31 87 := fm_iq Fs32 rfl
              have ws32_88 : iI s32 88 = iI s31 88 := fm_iq Fs32 rfl
              show WS k 115 [(3, .int (Int32.ofInt e20)), (2, .int (Int32.ofInt e15)), (1, .int (Int32.ofInt e9)), (0, .ref (A 179))] [.int (Int32.ofInt e33)] (Wd A dT s32) 0 0
              have hou : OUm B N 3 (sk B N (wdE B N (sk B N (iI s 77)))) 0 s32 := by have h := pf_ou hps32.2.2.2.2.2 (by first | exact oq_cd9cbf39 ws31_79 ws26_79 g25 | (clear hps32 g29 hps26 g23 g21 he20 he15 hps8; omega) | (clear g29 hps26 g23 g21 he20 he15 hps8; omega) | omega); rw [show iI s31 77 = wdE B N (sk B N (iI s 77)) by first | exact oq_1aa5be9e ws31_77 hsw | (clear hps32 g29 hps26 g23 g21 he20 he15 hps8; omega) | (clear g29 hps26 g23 g21 he20 he15 hps8; omega) | omega, show iI s31 78 = 0 by first | exact oq_f72d14bd b36.1 hps32.1 ws31_78 ws26_78 ws8_78 p1 | (clear hps32 g29 hps26 g23 g21 he20 he15 hps8; omega) | (clear g29 hps26 g23 g21 he20 he15 hps8; omega) | omega] at h; exact h
              refine w_pop X.1 (ax_d X (show cdA 213 115 = some (.pop, 1, 0, 0, 0) from rfl)) rfl (z_goto X (t := 147) rfl rfl (z_aload_n X (x := A 179) rfl (List.Mem.tail _ (List.Mem.tail _ (List.Mem.tail _ (List.Mem.head _)))) (z_getI X 179 rfl (c518_ok rfl) rfl rfl ?_)))
              have b37 := bi_79 Is32
              refine z_if_ne X (t := 160) rfl rfl (rng_to _) (fun g38 => ?_) (fun g38 => ?_)
              ·
                refine z_aload_n X (x := A 179) rfl (List.Mem.tail _ (List.Mem.tail _ (List.Mem.tail _ (List.Mem.head _)))) (w_dup X.1 (ax_d X (show cdA 213 161 = some (.dup, 1, 0, 0, 0) from rfl)) rfl (z_getI X 179 rfl (c518_ok rfl) rfl rfl ?_))
                have b39 := bi_86 Is32
                refine z_const X rfl (z_add X rfl (s_putI X 179 rfl (c518_ok rfl) rfl rfl (by decide) rfl rfl rfl (wd_gen (fun s40 hs40 => ?_))))
                have Is40 : Bd s40 := eqB hs40 (bd_I Is32 (show (0 : Int) ≤ ((iI s32 86) + 1) ∧ ((iI s32 86) + 1) ≤ 8 by first | exact ⟨oq_54f49eb5 b39.1, oq_fa715ff6 ws32_86 ws31_86 ws26_86 g23 b22.2⟩ | omega) ⟨by first | exact oq_74de1e16 b39.1 | omega, by first | exact oq_3762dfb5 b39.2 | omega⟩)
                have Fs40 := eqF hs40 (fm_I Gs32 (inl_ok (a := 86) rfl))
                have vs40 : iI s40 86 = ((iI s32 86) + 1) := eqI hs40 (iI_u ⟨by first | exact oq_74de1e16 b39.1 | omega, by first | exact oq_3762dfb5 b39.2 | omega⟩)
                have ws40_77 : iI s40 77 = iI s32 77 := eqI hs40 rfl
                have ws40_75 : iI s40 75 = iI s32 75 := eqI hs40 rfl
                have ws40_79 : iI s40 79 = iI s32 79 := eqI hs40 rfl
                have ws40_78 : iI s40 78 = iI s32 78 := eqI hs40 rfl
                have ws40_87 : iI s40 87 = iI s32 87 := eqI hs40 rfl
                have ws40_88 : iI s40 88 = iI s32 88 := eqI hs40 rfl
                have fs40 : Fm [86] [] s32 s40 := by rw [hs40]; exact fm_I (fm_rf _ _ _) (show 86 ∈ _ by decide)
                have JFDB_s40 : FDB B N s40 := FDB_fm fs40 (by decide) JFDB_s32
                exact w_vret X.1 q hRt (ax_d X (show cdA 213 170 = some (.return_, 1, 0, 0, 0) from rfl)) (Nat.zero_le _) (Nat.zero_le _) ⟨_, rfl, Is40, Fs40, JFDB_s40, rfl, ⟨by first | exact oq_4c505d4e ws40_78 b36.1 hps32.1 ws31_78 ws26_78 ws8_78 p1 | omega, by first | exact oq_da110da9 ws40_77 hps8.2.2.1 hps32.2.1 ws31_77 hps26.2.1 | omega, by first | exact oq_22e2f6a5 ws40_77 hps32.2.2.1 ws31_77 hwz.1 hps26.2.2 hb0 b2.2 hN | (clear g38 hps32 g29 hps26 g23 g21 he20 he15 hps8; omega) | (clear hps32 g29 hps26 g23 g21 he20 he15 hps8; omega) | omega, by first | exact oq_971796bb ws40_79 g38 b37.1 | omega, by first | exact oq_073a94d0 ws40_87 vs40 ws32_87 ws32_86 ws31_87 ws31_86 ws26_87 ws26_86 ws8_87 ws8_86 p3 | omega, by first | exact oq_314a3869 ws40_79 g38 b37.1 | omega, cln_of (c := s40) rfl (by exact Or.inl ⟨by first | exact oq_8294da13 g29 re15.1 he15 hk13 hwv | (clear g38 hps32 g29 hps26 g23 g21 he20 he15 hps8; omega) | (clear hps32 g29 hps26 g23 g21 he20 he15 hps8; omega) | omega, rfl⟩) (by first | exact oq_8d312aa3 g23 b22.2 ws8_86 | (clear g38 hps32 g29 hps26 g23 g21 he20 he15 hps8; omega) | (clear hps32 g29 hps26 g23 g21 he20 he15 hps8; omega) | omega) hou (Or.inl ⟨by first | exact g38 | (clear g38 hps32 g29 hps26 g23 g21 he20 he15 hps8; omega) | (clear hps32 g29 hps26 g23 g21 he20 he15 hps8; omega) | omega, by first | exact ws40_79 | (clear g38 hps32 g29 hps26 g23 g21 he20 he15 hps8; omega) | (clear hps32 g29 hps26 g23 g21 he20 he15 hps8; omega) | omega⟩) (Or.inl ⟨rfl, by first | exact oq_ac0e91e1 ws40_88 ws32_88 vs31 hsw | (clear g38 hps32 g29 hps26 g23 g21 he20 he15 hps8; omega) | (clear hps32 g29 hps26 g23 g21 he20 he15 hps8; omega) | omega⟩)⟩⟩
              ·
                refine z_aload_n X (x := A 179) rfl (List.Mem.tail _ (List.Mem.tail _ (List.Mem.tail _ (List.Mem.head _)))) (z_bipush X rfl (zcV_v1 X E 179 (As := [.int (Int32.ofInt 59)]) (st := []) rfl rfl rfl rfl (k_sign3 G Is32 JFDB_s32 (by first | exact ⟨by decide, by decide⟩ | omega) (by first | exact oq_33e15320 g38 hps32.2.2.2.2.1 ws31_75 ws26_75 ws8_75 b2.2 | omega)) rfl (Nat.le_of_ble_eq_true rfl) (fun s41 Is41 Fs41 JFDB_s41 hps41 => ?_)))
                have hps41p := And.intro hps41.1 (hps41.2.1)
                have Gs41 := fm_tq Gs32 Fs41 rfl rfl
                have JFDB_s41 : FDB B N s41 := FDB_fm Fs41 (by decide) JFDB_s32
                have b43 := bi_77 Is41
                have ws41_75 : iI s41 75 = iI s32 75 := fm_iq Fs41 rfl
                have b44 := bi_79 Is41
                have ws41_78 : iI s41 78 = iI s32 78 := fm_iq Fs41 rfl
                have ws41_86 : iI s41 86 = iI s32 86 := fm_iq Fs41 rfl
                have ws41_87 : iI s41 87 = iI s32 87 := fm_iq Fs41 rfl
                have ws41_88 : iI s41 88 = iI s32 88 := fm_iq Fs41 rfl
                have hsg : iI s41 79 = 0 → iI s41 77 ≤ N := fun h => sg_le hps41.1 h
                refine z_aload_n X (x := A 179) rfl (List.Mem.tail _ (List.Mem.tail _ (List.Mem.tail _ (List.Mem.head _)))) (w_dup X.1 (ax_d X (show cdA 213 161 = some (.dup, 1, 0, 0, 0) from rfl)) rfl (z_getI X 179 rfl (c518_ok rfl) rfl rfl ?_))
                have b45 := bi_86 Is41
                refine z_const X rfl (z_add X rfl (s_putI X 179 rfl (c518_ok rfl) rfl rfl (by decide) rfl rfl rfl (wd_gen (fun s46 hs46 => ?_))))
                have Is46 : Bd s46 := eqB hs46 (bd_I Is41 (show (0 : Int) ≤ ((iI s41 86) + 1) ∧ ((iI s41 86) + 1) ≤ 8 by first | exact ⟨oq_54f49eb5 b45.1, oq_36461835 ws41_86 ws32_86 ws31_86 ws26_86 g23 b22.2⟩ | omega) ⟨by first | exact oq_74de1e16 b45.1 | omega, by first | exact oq_3762dfb5 b45.2 | omega⟩)
                have Fs46 := eqF hs46 (fm_I Gs41 (inl_ok (a := 86) rfl))
                have vs46 : iI s46 86 = ((iI s41 86) + 1) := eqI hs46 (iI_u ⟨by first | exact oq_74de1e16 b45.1 | omega, by first | exact oq_3762dfb5 b45.2 | omega⟩)
                have ws46_77 : iI s46 77 = iI s41 77 := eqI hs46 rfl
                have ws46_75 : iI s46 75 = iI s41 75 := eqI hs46 rfl
                have ws46_79 : iI s46 79 = iI s41 79 := eqI hs46 rfl
                have ws46_78 : iI s46 78 = iI s41 78 := eqI hs46 rfl
                have ws46_87 : iI s46 87 = iI s41 87 := eqI hs46 rfl
                have ws46_88 : iI s46 88 = iI s41 88 := eqI hs46 rfl
                have fs46 : Fm [86] [] s41 s46 := by rw [hs46]; exact fm_I (fm_rf _ _ _) (show 86 ∈ _ by decide)
                have JFDB_s46 : FDB B N s46 := FDB_fm fs46 (by decide) JFDB_s41
                exact w_vret X.1 q hRt (ax_d X (show cdA 213 170 = some (.return_, 1, 0, 0, 0) from rfl)) (Nat.zero_le _) (Nat.zero_le _) ⟨_, rfl, Is46, Fs46, JFDB_s46, rfl, ⟨by first | exact oq_9f8cc8f6 ws46_78 ws41_78 b36.1 hps32.1 ws31_78 ws26_78 ws8_78 p1 | omega, by first | exact oq_cf7a6331 ws46_77 hps41.2.1 hps32.2.1 ws31_77 hps26.2.1 hps8.2.2.1 | omega, by first | exact oq_27b0f828 ws46_77 hps41.2.2 hps32.2.2.1 ws31_77 hwz.1 hps26.2.2 hb0 b2.2 hN | (clear hps41 hps32 g29 hps26 g23 g21 he20 he15 hps8; omega) | (clear hps32 g29 hps26 g23 g21 he20 he15 hps8; omega) | omega, by first | exact oq_2ca254b7 ws46_79 ws46_77 hsg b44.1 hps41p.2 hps32.2.1 ws31_77 hwg hsw hb0 hps8p.2.2 hN | (clear hps41 hps32 g29 hps26 g23 g21 he20 he15 hps8; omega) | (clear hps32 g29 hps26 g23 g21 he20 he15 hps8; omega) | omega, by first | exact oq_7abd3e11 ws46_87 vs46 ws41_87 ws41_86 ws32_87 ws32_86 ws31_87 ws31_86 ws26_87 ws26_86 ws8_87 ws8_86 p3 | omega, by first | exact oq_0a3a365b vs46 ws41_86 ws32_86 ws31_86 ws26_86 ws8_86 | omega, cln_of (c := s41) rfl (by exact Or.inl ⟨by first | exact oq_8294da13 g29 re15.1 he15 hk13 hwv | (clear hps41 hps32 g29 hps26 g23 g21 he20 he15 hps8; omega) | (clear hps32 g29 hps26 g23 g21 he20 he15 hps8; omega) | omega, rfl⟩) (by first | exact oq_8d312aa3 g23 b22.2 ws8_86 | (clear hps41 hps32 g29 hps26 g23 g21 he20 he15 hps8; omega) | (clear hps32 g29 hps26 g23 g21 he20 he15 hps8; omega) | omega) hou (Or.inr ⟨by first | exact g38 | (clear hps41 hps32 g29 hps26 g23 g21 he20 he15 hps8; omega) | (clear hps32 g29 hps26 g23 g21 he20 he15 hps8; omega) | omega, hps41.1, by first | exact ws46_79 | (clear hps41 hps32 g29 hps26 g23 g21 he20 he15 hps8; omega) | (clear hps32 g29 hps26 g23 g21 he20 he15 hps8; omega) | omega, by first | exact ws46_77 | (clear hps41 hps32 g29 hps26 g23 g21 he20 he15 hps8; omega) | (clear hps32 g29 hps26 g23 g21 he20 he15 hps8; omega) | omega⟩) (Or.inl ⟨rfl, by first | exact oq_469c7eaf ws46_88 ws41_88 ws32_88 vs31 hsw | (clear hps41 hps32 g29 hps26 g23 g21 he20 he15 hps8; omega) | (clear hps32 g29 hps26 g23 g21 he20 he15 hps8; omega) | omega⟩)⟩⟩
          ·
            exfalso
            omega
        ·
          refine z_aload_n X (x := A 179) rfl (List.Mem.tail _ (List.Mem.tail _ (List.Mem.tail _ (List.Mem.head _)))) (z_const X rfl (z_aload_n X (x := A 179) rfl (List.Mem.tail _ (List.Mem.tail _ (List.Mem.tail _ (List.Mem.head _)))) (z_getI X 179 rfl (c518_ok rfl) rfl rfl ?_)))
          have b47 := bi_77 Is8
          refine zcV_v0 X E 179 (As := [.int (Int32.ofInt 3), .int (Int32.ofInt (iI s8 77))]) (st := []) rfl rfl rfl rfl (k_wrong3 G Is8 (by first | exact ⟨by decide, by decide⟩ | omega) (by first | exact ⟨oq_ca54ea22 b47.1, b47.2⟩ | omega)) rfl (Nat.le_of_ble_eq_true rfl) (fun s48 Is48 Fs48 hps48 => ?_)
          have Gs48 := fm_tq Gs8 Fs48 rfl rfl
          have JFDB_s48 : FDB B N s48 := FDB_fm Fs48 (by decide) JFDB_s8
          have ws48_77 : iI s48 77 = iI s8 77 := fm_iq Fs48 rfl
          have ws48_75 : iI s48 75 = iI s8 75 := fm_iq Fs48 rfl
          have b50 := bi_79 Is48
          have ws48_78 : iI s48 78 = iI s8 78 := fm_iq Fs48 rfl
          have ws48_86 : iI s48 86 = iI s8 86 := fm_iq Fs48 rfl
          have ws48_87 : iI s48 87 = iI s8 87 := fm_iq Fs48 rfl
          have ws48_88 : iI s48 88 = iI s8 88 := fm_iq Fs48 rfl
          refine z_aload_n X (x := A 179) rfl (List.Mem.tail _ (List.Mem.tail _ (List.Mem.tail _ (List.Mem.head _)))) (z_getI X 179 rfl (c518_ok rfl) rfl rfl ?_)
          have b51 := bi_79 Is48
          refine z_if_eq X (t := 95) rfl rfl (rng_to _) (fun g52 => ?_) (fun g52 => ?_)
          ·
            exfalso
            omega
          ·
            exact w_vret X.1 q hRt (ax_d X (show cdA 213 94 = some (.return_, 1, 0, 0, 0) from rfl)) (Nat.zero_le _) (Nat.zero_le _) ⟨_, rfl, Is48, Gs48, JFDB_s48, rfl, ⟨by first | exact oq_7fe879e0 ws48_78 ws8_78 p1 b4.1 | omega, by first | exact oq_9272904e ws48_77 hps8.2.2.1 | omega, by first | exact oq_825ee5b4 ws48_77 hps8.2.2.2 b2.2 hN p2 | (clear g52 hps48 g21 he20 he15 hps8; omega) | (clear hps48 g21 he20 he15 hps8; omega) | omega, by first | exact oq_f7664523 g52 b51.1 | omega, by first | exact oq_ea1d993c ws48_86 ws48_87 ws8_87 b6.2 g23 | omega, by first | exact oq_2dbfa935 g52 b51.1 | omega, cln_no (clm_3 (by first | exact Or.inl (oq_8294da13 g21 re15.1 he15 hk13 hwv) | (clear g52 hps48 g21 he20 he15 hps8; omega) | (clear hps48 g21 he20 he15 hps8; omega) | omega) (by first | exact oq_882d2e9a g23 ws8_86 | (clear g52 hps48 g21 he20 he15 hps8; omega) | (clear hps48 g21 he20 he15 hps8; omega) | omega) (by first | exact oq_dfefd463 g52 b51.1 hps48 ws8_79 p0 | (clear g52 hps48 g21 he20 he15 hps8; omega) | (clear hps48 g21 he20 he15 hps8; omega) | omega)) (by first | exact g52 | (clear g52 hps48 g21 he20 he15 hps8; omega) | (clear hps48 g21 he20 he15 hps8; omega) | omega)⟩⟩
      ·
        refine z_load_n X (x := e20) rfl (List.Mem.head _) (z_if_ne X (t := 69) rfl rfl ⟨by first | exact oq_fa4e5087 re20.1 | omega, by first | exact oq_22e1e6b0 re20.2 | omega⟩ (fun g53 => ?_) (fun g53 => ?_))
        ·
          refine z_aload_n X (x := A 179) rfl (List.Mem.tail _ (List.Mem.tail _ (List.Mem.tail _ (List.Mem.head _)))) (z_getI X 179 rfl (c518_ok rfl) rfl rfl ?_)
          have b54 := bi_86 Is8
          refine z_bipush X rfl (z_icmp_ne X (t := 87) rfl rfl (rng_to _) (by decide) (fun g55 => ?_) (fun g55 => ?_))
          ·
            refine z_aload_n X (x := A 179) rfl (List.Mem.tail _ (List.Mem.tail _ (List.Mem.tail _ (List.Mem.head _)))) (z_getI X 179 rfl (c518_ok rfl) rfl rfl ?_)
            have b56 := bi_79 Is8
            refine z_if_eq X (t := 95) rfl rfl (rng_to _) (fun g57 => ?_) (fun g57 => ?_)
            ·
              refine z_aload_n X (x := A 179) rfl (List.Mem.tail _ (List.Mem.tail _ (List.Mem.tail _ (List.Mem.head _)))) (zcV_v1 X E 179 (As := []) (st := []) rfl rfl rfl rfl (k_skipWord3 G Is8 JFDB_s8 (by first | exact oq_7f354ec2 hps8.2.2.2 b2.2 hN p2 | (clear g55 g53 he20 he15 hps8; omega) | (clear g53 he20 he15 hps8; omega) | omega)) rfl (Nat.le_of_ble_eq_true rfl) (fun s58 Is58 Fs58 JFDB_s58 hps58 => ?_))
              have hps58p := And.intro hps58.1 (hps58.2.1)
              have Gs58 := fm_tq Gs8 Fs58 rfl rfl
              have JFDB_s58 : FDB B N s58 := FDB_fm Fs58 (by decide) JFDB_s8
              have b60 := bi_77 Is58
              have ws58_75 : iI s58 75 = iI s8 75 := fm_iq Fs58 rfl
              have ws58_79 : iI s58 79 = iI s8 79 := fm_iq Fs58 rfl
              have ws58_78 : iI s58 78 = iI s8 78 := fm_iq Fs58 rfl
              have ws58_86 : iI s58 86 = iI s8 86 := fm_iq Fs58 rfl
              have ws58_87 : iI s58 87 = iI s8 87 := fm_iq Fs58 rfl
              have ws58_88 : iI s58 88 = iI s8 88 := fm_iq Fs58 rfl
              have hsw : iI s58 77 = wdE B N (sk B N (iI s 77)) := by rw [hps58.1, show iI s8 77 = (sk B N (iI s 77)) by first | exact hb0 | (clear hps58 g55 g53 he20 he15 hps8; omega) | (clear g55 g53 he20 he15 hps8; omega) | omega]
              have hwz := wh_let (show whV B N (sk B N (iI s 77)) ≠ 0 by first | exact oq_87c5e308 g53 re20.1 he20 hk18 hwv | (clear hps58 g55 g53 he20 he15 hps8; omega) | (clear g55 g53 he20 he15 hps8; omega) | omega)
              have hwg := wd_gt hwz.1 hwz.2.1 hwz.2.2
              refine z_load_n X (x := e15) rfl (List.Mem.tail _ (List.Mem.head _)) (z_if_eq X (t := 119) rfl rfl ⟨by first | exact oq_6ab4c69f g21 | omega, by first | exact oq_3b8a080c g21 | omega⟩ (fun g61 => ?_) (fun g61 => ?_))
              ·
                refine z_aload_n X (x := A 179) rfl (List.Mem.tail _ (List.Mem.tail _ (List.Mem.tail _ (List.Mem.head _)))) (s_getR X 179 rfl (c518_ok rfl) rfl rfl (z_aload_n X (x := A 179) rfl (List.Mem.tail _ (List.Mem.tail _ (List.Mem.tail _ (List.Mem.head _)))) (z_getI X 179 rfl (c518_ok rfl) rfl rfl ?_)))
                have b62 := bi_87 Is58
                refine z_aload_n X (x := A 179) rfl (List.Mem.tail _ (List.Mem.tail _ (List.Mem.tail _ (List.Mem.head _)))) (z_getI X 179 rfl (c518_ok rfl) rfl rfl ?_)
                have b63 := bi_77 Is58
                refine z_ast X 183 rfl (c518_ok rfl) rfl (by first | exact b62.1 | omega) (show (iI s58 87) < 8 by first | exact oq_7adb7498 ws58_87 g55 b54.2 ws8_87 ws8_86 p3 | omega) (cbig_ok rfl) (wd_gen (fun s64 hs64 => ?_))
                have Is64 : Bd s64 := eqB hs64 (bd_C Is58 (show (0 : Int) ≤ (iI s58 77) ∧ (iI s58 77) ≤ 200 by first | exact ⟨b63.1, by first | exact oq_bc0f03a9 hwz.1 hps58.2.2 hb0 b2.2 hN | (clear hps58 g55 g53 he20 he15 hps8; omega) | (clear g55 g53 he20 he15 hps8; omega) | omega⟩ | omega) (rng_to _))
                have Fs64 := eqF hs64 (fm_C Gs58 (inl_ok (a := 160) rfl))
                have ws64_77 : iI s64 77 = iI s58 77 := eqI hs64 rfl
                have ws64_75 : iI s64 75 = iI s58 75 := eqI hs64 rfl
                have ws64_79 : iI s64 79 = iI s58 79 := eqI hs64 rfl
                have ws64_78 : iI s64 78 = iI s58 78 := eqI hs64 rfl
                have ws64_86 : iI s64 86 = iI s58 86 := eqI hs64 rfl
                have ws64_87 : iI s64 87 = iI s58 87 := eqI hs64 rfl
                have ws64_88 : iI s64 88 = iI s58 88 := eqI hs64 rfl
                have fs64 : Fm [] [160] s58 s64 := by rw [hs64]; exact fm_C (fm_rf _ _ _) (show 160 ∈ _ by decide)
                have JFDB_s64 : FDB B N s64 := FDB_fm fs64 (by decide) JFDB_s58
                refine z_aload_n X (x := A 179) rfl (List.Mem.tail _ (List.Mem.tail _ (List.Mem.tail _ (List.Mem.head _)))) (w_dup X.1 (ax_d X (show cdA 213 133 = some (.dup, 1, 0, 0, 0) from rfl)) rfl (z_getI X 179 rfl (c518_ok rfl) rfl rfl ?_))
                have b65 := bi_87 Is64
                refine z_const X rfl (z_add X rfl (s_putI X 179 rfl (c518_ok rfl) rfl rfl (by decide) rfl rfl rfl (wd_gen (fun s66 hs66 => ?_))))
                have Is66 : Bd s66 := eqB hs66 (bd_I Is64 (show (0 : Int) ≤ ((iI s64 87) + 1) ∧ ((iI s64 87) + 1) ≤ 8 by first | exact ⟨oq_54f49eb5 b65.1, oq_404f837d ws64_87 ws58_87 g55 b54.2 ws8_87 ws8_86 p3⟩ | omega) ⟨by first | exact oq_74de1e16 b65.1 | omega, by first | exact oq_3762dfb5 b65.2 | omega⟩)
                have Fs66 := eqF hs66 (fm_I Fs64 (inl_ok (a := 87) rfl))
                have vs66 : iI s66 87 = ((iI s64 87) + 1) := eqI hs66 (iI_u ⟨by first | exact oq_74de1e16 b65.1 | omega, by first | exact oq_3762dfb5 b65.2 | omega⟩)
                have ws66_77 : iI s66 77 = iI s64 77 := eqI hs66 rfl
                have ws66_75 : iI s66 75 = iI s64 75 := eqI hs66 rfl
                have ws66_79 : iI s66 79 = iI s64 79 := eqI hs66 rfl
                have ws66_78 : iI s66 78 = iI s64 78 := eqI hs66 rfl
                have ws66_86 : iI s66 86 = iI s64 86 := eqI hs66 rfl
                have ws66_88 : iI s66 88 = iI s64 88 := eqI hs66 rfl
                have fs66 : Fm [87] [] s64 s66 := by rw [hs66]; exact fm_I (fm_rf _ _ _) (show 87 ∈ _ by decide)
                have JFDB_s66 : FDB B N s66 := FDB_fm fs66 (by decide) JFDB_s64
                refine z_aload_n X (x := A 179) rfl (List.Mem.tail _ (List.Mem.tail _ (List.Mem.tail _ (List.Mem.head _)))) (z_callV X 179 (rm := (rkR (24 + 3 * (7) + 2))) (As := []) (st := []) rfl rfl (by decide) rfl (by rw [E.1, E.2.1, E.2.2.1]; exact (k_orsr3 G (B := B) (N := N) 7).2.2 Is66 JFDB_s66 (by first | exact oq_96a2ea0e ws66_77 ws64_77 hwz.1 hps58.2.2 hb0 b2.2 hN | (clear hps58 g55 g53 he20 he15 hps8; omega) | (clear g55 g53 he20 he15 hps8; omega) | omega) (by first | exact oq_44f88855 ws66_78 ws64_78 ws58_78 ws8_78 p1 b4.1 | omega) (by first | exact oq_d6c38034 ws66_78 ws64_78 ws58_78 ws8_78 p1 | omega) (by first | exact oq_b86ef8dd ws66_77 ws64_77 hwz.1 hps58.2.2 hb0 b2.2 hN | (clear hps58 g55 g53 he20 he15 hps8; omega) | (clear g55 g53 he20 he15 hps8; omega) | omega)) ⟨by rw [E.2.2.2]; exact (show (12 + (24 + 3 * (7) + 2)) + 1 ≤ 60 from oq_747fe883), by rw [E.2.2.2]; exact (show 8 + (3 + 11) + (500 + 45 * (24 + 3 * (7) + 2)) ≤ 2637 from oq_0300f435), by rw [E.2.2.2]; exact Nat.le_refl 0, by rw [E.2.2.2]; exact Nat.le_refl 0⟩ (Nat.le_of_ble_eq_true rfl) (fun vv s67 hq => ?_) (fun ee s67 hq => ?_))
                rotate_left
                · obtain ⟨Is67, Fs67, JFDB_s67, e68, hv, hrs67, hps67⟩ := hq; cases hv
                obtain ⟨Is67, Fs67, JFDB_s67, e68, hv, hrs67, hps67⟩ := hq
                cases hv
                have Gs67 := fm_tq Fs66 Fs67 rfl rfl
                have JFDB_s67 : FDB B N s67 := FDB_fm Fs67 (by decide) JFDB_s66
                have b69 := bi_77 Is67
                have ws67_75 : iI s67 75 = iI s66 75 := fm_iq Fs67 rfl
                have b70 := bi_79 Is67
                have b71 := bi_78 Is67
                have ws67_86 : iI s67 86 = iI s66 86 := fm_iq Fs67 rfl
                have ws67_87 : iI s67 87 = iI s66 87 := fm_iq Fs67 rfl
                have ws67_88 : iI s67 88 = iI s66 88 := fm_iq Fs67 rfl
                show WS k 146 [(3, .int (Int32.ofInt e20)), (2, .int (Int32.ofInt e15)), (1, .int (Int32.ofInt e9)), (0, .ref (A 179))] [.int (Int32.ofInt e68)] (Wd A dT s67) 0 0
                have hou : OUm B N 8 (sk B N (wdE B N (sk B N (iI s 77)))) 0 s67 := by have h := pf_ou hps67.2.2.2.2.2.2.2 (by first | exact oq_264718cb ws66_79 ws64_79 ws58_79 g57 | (clear hps67 hps58 g55 g53 he20 he15 hps8; omega) | (clear hps58 g55 g53 he20 he15 hps8; omega) | omega); rw [show iI s66 77 = wdE B N (sk B N (iI s 77)) by first | exact oq_878618b1 ws66_77 ws64_77 hsw | (clear hps67 hps58 g55 g53 he20 he15 hps8; omega) | (clear hps58 g55 g53 he20 he15 hps8; omega) | omega, show iI s66 78 = 0 by first | exact oq_6e8d74d4 b71.1 hps67.1 ws66_78 ws64_78 ws58_78 ws8_78 p1 | (clear hps67 hps58 g55 g53 he20 he15 hps8; omega) | (clear hps58 g55 g53 he20 he15 hps8; omega) | omega] at h; exact h
                refine w_pop X.1 (ax_d X (show cdA 213 146 = some (.pop, 1, 0, 0, 0) from rfl)) rfl (z_aload_n X (x := A 179) rfl (List.Mem.tail _ (List.Mem.tail _ (List.Mem.tail _ (List.Mem.head _)))) (z_getI X 179 rfl (c518_ok rfl) rfl rfl ?_))
                have b72 := bi_79 Is67
                refine z_if_ne X (t := 160) rfl rfl (rng_to _) (fun g73 => ?_) (fun g73 => ?_)
                ·
                  refine z_aload_n X (x := A 179) rfl (List.Mem.tail _ (List.Mem.tail _ (List.Mem.tail _ (List.Mem.head _)))) (w_dup X.1 (ax_d X (show cdA 213 161 = some (.dup, 1, 0, 0, 0) from rfl)) rfl (z_getI X 179 rfl (c518_ok rfl) rfl rfl ?_))
                  have b74 := bi_86 Is67
                  refine z_const X rfl (z_add X rfl (s_putI X 179 rfl (c518_ok rfl) rfl rfl (by decide) rfl rfl rfl (wd_gen (fun s75 hs75 => ?_))))
                  have Is75 : Bd s75 := eqB hs75 (bd_I Is67 (show (0 : Int) ≤ ((iI s67 86) + 1) ∧ ((iI s67 86) + 1) ≤ 8 by first | exact ⟨oq_54f49eb5 b74.1, oq_36461835 ws67_86 ws66_86 ws64_86 ws58_86 g55 b54.2⟩ | omega) ⟨by first | exact oq_74de1e16 b74.1 | omega, by first | exact oq_3762dfb5 b74.2 | omega⟩)
                  have Fs75 := eqF hs75 (fm_I Gs67 (inl_ok (a := 86) rfl))
                  have vs75 : iI s75 86 = ((iI s67 86) + 1) := eqI hs75 (iI_u ⟨by first | exact oq_74de1e16 b74.1 | omega, by first | exact oq_3762dfb5 b74.2 | omega⟩)
                  have ws75_77 : iI s75 77 = iI s67 77 := eqI hs75 rfl
                  have ws75_75 : iI s75 75 = iI s67 75 := eqI hs75 rfl
                  have ws75_79 : iI s75 79 = iI s67 79 := eqI hs75 rfl
                  have ws75_78 : iI s75 78 = iI s67 78 := eqI hs75 rfl
                  have ws75_87 : iI s75 87 = iI s67 87 := eqI hs75 rfl
                  have ws75_88 : iI s75 88 = iI s67 88 := eqI hs75 rfl
                  have fs75 : Fm [86] [] s67 s75 := by rw [hs75]; exact fm_I (fm_rf _ _ _) (show 86 ∈ _ by decide)
                  have JFDB_s75 : FDB B N s75 := FDB_fm fs75 (by decide) JFDB_s67
                  exact w_vret X.1 q hRt (ax_d X (show cdA 213 170 = some (.return_, 1, 0, 0, 0) from rfl)) (Nat.zero_le _) (Nat.zero_le _) ⟨_, rfl, Is75, Fs75, JFDB_s75, rfl, ⟨by first | exact oq_e6068ff7 ws75_78 b71.1 hps67.1 ws66_78 ws64_78 ws58_78 ws8_78 p1 | omega, by first | exact oq_1e809b18 ws75_77 hps67.2.1 ws66_77 ws64_77 hps58.2.1 hps8.2.2.1 | omega, by first | exact oq_b7b8f116 ws75_77 hps67.2.2.2.2.2.1 hps67.2.2.1 ws66_79 ws64_79 ws58_79 g57 | omega, by first | exact oq_971796bb ws75_79 g73 b72.1 | omega, by first | exact oq_ce3e081a ws75_87 vs75 ws67_87 ws67_86 ws66_86 vs66 ws64_87 ws64_86 ws58_87 ws58_86 ws8_87 ws8_86 p3 | omega, by first | exact oq_314a3869 ws75_79 g73 b72.1 | omega, cln_of (c := s75) rfl (by exact Or.inr ⟨by first | exact oq_cc51afe1 g53 re20.1 he20 hk18 hwv | (clear g73 hps67 hps58 g55 g53 he20 he15 hps8; omega) | (clear hps67 hps58 g55 g53 he20 he15 hps8; omega) | omega, rfl⟩) (by first | exact oq_8d312aa3 g55 b54.2 ws8_86 | (clear g73 hps67 hps58 g55 g53 he20 he15 hps8; omega) | (clear hps67 hps58 g55 g53 he20 he15 hps8; omega) | omega) hou (Or.inl ⟨by first | exact g73 | (clear g73 hps67 hps58 g55 g53 he20 he15 hps8; omega) | (clear hps67 hps58 g55 g53 he20 he15 hps8; omega) | omega, by first | exact ws75_79 | (clear g73 hps67 hps58 g55 g53 he20 he15 hps8; omega) | (clear hps67 hps58 g55 g53 he20 he15 hps8; omega) | omega⟩) (Or.inr ⟨by decide, by first | exact oq_4df13a51 ws75_88 ws67_88 ws66_88 ws64_88 ws58_88 ws8_88 | (clear g73 hps67 hps58 g55 g53 he20 he15 hps8; omega) | (clear hps67 hps58 g55 g53 he20 he15 hps8; omega) | omega⟩)⟩⟩
                ·
                  refine z_aload_n X (x := A 179) rfl (List.Mem.tail _ (List.Mem.tail _ (List.Mem.tail _ (List.Mem.head _)))) (z_bipush X rfl (zcV_v1 X E 179 (As := [.int (Int32.ofInt 59)]) (st := []) rfl rfl rfl rfl (k_sign3 G Is67 JFDB_s67 (by first | exact ⟨by decide, by decide⟩ | omega) (by first | exact oq_bb33e387 hps67.2.2.2.2.2.1 hps67.2.2.1 ws66_79 ws64_79 ws58_79 g57 | omega)) rfl (Nat.le_of_ble_eq_true rfl) (fun s76 Is76 Fs76 JFDB_s76 hps76 => ?_)))
                  have hps76p := And.intro hps76.1 (hps76.2.1)
                  have Gs76 := fm_tq Gs67 Fs76 rfl rfl
                  have JFDB_s76 : FDB B N s76 := FDB_fm Fs76 (by decide) JFDB_s67
                  have b78 := bi_77 Is76
                  have ws76_75 : iI s76 75 = iI s67 75 := fm_iq Fs76 rfl
                  have b79 := bi_79 Is76
                  have ws76_78 : iI s76 78 = iI s67 78 := fm_iq Fs76 rfl
                  have ws76_86 : iI s76 86 = iI s67 86 := fm_iq Fs76 rfl
                  have ws76_87 : iI s76 87 = iI s67 87 := fm_iq Fs76 rfl
                  have ws76_88 : iI s76 88 = iI s67 88 := fm_iq Fs76 rfl
                  have hsg : iI s76 79 = 0 → iI s76 77 ≤ N := fun h => sg_le hps76.1 h
                  refine z_aload_n X (x := A 179) rfl (List.Mem.tail _ (List.Mem.tail _ (List.Mem.tail _ (List.Mem.head _)))) (w_dup X.1 (ax_d X (show cdA 213 161 = some (.dup, 1, 0, 0, 0) from rfl)) rfl (z_getI X 179 rfl (c518_ok rfl) rfl rfl ?_))
                  have b80 := bi_86 Is76
                  refine z_const X rfl (z_add X rfl (s_putI X 179 rfl (c518_ok rfl) rfl rfl (by decide) rfl rfl rfl (wd_gen (fun s81 hs81 => ?_))))
                  have Is81 : Bd s81 := eqB hs81 (bd_I Is76 (show (0 : Int) ≤ ((iI s76 86) + 1) ∧ ((iI s76 86) + 1) ≤ 8 by first | exact ⟨oq_54f49eb5 b80.1, oq_56cdf1d3 ws76_86 ws67_86 ws66_86 ws64_86 ws58_86 g55 b54.2⟩ | omega) ⟨by first | exact oq_74de1e16 b80.1 | omega, by first | exact oq_3762dfb5 b80.2 | omega⟩)
                  have Fs81 := eqF hs81 (fm_I Gs76 (inl_ok (a := 86) rfl))
                  have vs81 : iI s81 86 = ((iI s76 86) + 1) := eqI hs81 (iI_u ⟨by first | exact oq_74de1e16 b80.1 | omega, by first | exact oq_3762dfb5 b80.2 | omega⟩)
                  have ws81_77 : iI s81 77 = iI s76 77 := eqI hs81 rfl
                  have ws81_75 : iI s81 75 = iI s76 75 := eqI hs81 rfl
                  have ws81_79 : iI s81 79 = iI s76 79 := eqI hs81 rfl
                  have ws81_78 : iI s81 78 = iI s76 78 := eqI hs81 rfl
                  have ws81_87 : iI s81 87 = iI s76 87 := eqI hs81 rfl
                  have ws81_88 : iI s81 88 = iI s76 88 := eqI hs81 rfl
                  have fs81 : Fm [86] [] s76 s81 := by rw [hs81]; exact fm_I (fm_rf _ _ _) (show 86 ∈ _ by decide)
                  have JFDB_s81 : FDB B N s81 := FDB_fm fs81 (by decide) JFDB_s76
                  exact w_vret X.1 q hRt (ax_d X (show cdA 213 170 = some (.return_, 1, 0, 0, 0) from rfl)) (Nat.zero_le _) (Nat.zero_le _) ⟨_, rfl, Is81, Fs81, JFDB_s81, rfl, ⟨by first | exact oq_6da97644 ws81_78 ws76_78 b71.1 hps67.1 ws66_78 ws64_78 ws58_78 ws8_78 p1 | omega, by first | exact oq_a86b6adc ws81_77 hps76.2.1 hps67.2.1 ws66_77 ws64_77 hps58.2.1 hps8.2.2.1 | omega, by first | exact oq_80c6071c ws81_77 hps76.2.2 hps67.2.2.1 ws66_77 ws64_77 hwz.1 hps58.2.2 hb0 b2.2 hN | (clear hps76 hps67 hps58 g55 g53 he20 he15 hps8; omega) | (clear hps67 hps58 g55 g53 he20 he15 hps8; omega) | omega, by first | exact oq_51e71c05 ws81_79 ws81_77 hsg b79.1 hps76p.2 hps67.2.1 ws66_77 ws64_77 hwg hsw hb0 hps8p.2.2 hN | (clear hps76 hps67 hps58 g55 g53 he20 he15 hps8; omega) | (clear hps67 hps58 g55 g53 he20 he15 hps8; omega) | omega, by first | exact oq_42ada30f ws81_87 vs81 ws76_87 ws76_86 ws67_87 ws67_86 ws66_86 vs66 ws64_87 ws64_86 ws58_87 ws58_86 ws8_87 ws8_86 p3 | omega, by first | exact oq_28d8858a vs81 ws76_86 ws67_86 ws66_86 ws64_86 ws58_86 ws8_86 | omega, cln_of (c := s76) rfl (by exact Or.inr ⟨by first | exact oq_cc51afe1 g53 re20.1 he20 hk18 hwv | (clear hps76 hps67 hps58 g55 g53 he20 he15 hps8; omega) | (clear hps67 hps58 g55 g53 he20 he15 hps8; omega) | omega, rfl⟩) (by first | exact oq_8d312aa3 g55 b54.2 ws8_86 | (clear hps76 hps67 hps58 g55 g53 he20 he15 hps8; omega) | (clear hps67 hps58 g55 g53 he20 he15 hps8; omega) | omega) hou (Or.inr ⟨by first | exact g73 | (clear hps76 hps67 hps58 g55 g53 he20 he15 hps8; omega) | (clear hps67 hps58 g55 g53 he20 he15 hps8; omega) | omega, hps76.1, by first | exact ws81_79 | (clear hps76 hps67 hps58 g55 g53 he20 he15 hps8; omega) | (clear hps67 hps58 g55 g53 he20 he15 hps8; omega) | omega, by first | exact ws81_77 | (clear hps76 hps67 hps58 g55 g53 he20 he15 hps8; omega) | (clear hps67 hps58 g55 g53 he20 he15 hps8; omega) | omega⟩) (Or.inr ⟨by decide, by first | exact oq_cc03667a ws81_88 ws76_88 ws67_88 ws66_88 ws64_88 ws58_88 ws8_88 | (clear hps76 hps67 hps58 g55 g53 he20 he15 hps8; omega) | (clear hps67 hps58 g55 g53 he20 he15 hps8; omega) | omega⟩)⟩⟩
              ·
                exfalso
                omega
            ·
              exfalso
              omega
          ·
            refine z_aload_n X (x := A 179) rfl (List.Mem.tail _ (List.Mem.tail _ (List.Mem.tail _ (List.Mem.head _)))) (z_const X rfl (z_aload_n X (x := A 179) rfl (List.Mem.tail _ (List.Mem.tail _ (List.Mem.tail _ (List.Mem.head _)))) (z_getI X 179 rfl (c518_ok rfl) rfl rfl ?_)))
            have b82 := bi_77 Is8
            refine zcV_v0 X E 179 (As := [.int (Int32.ofInt 3), .int (Int32.ofInt (iI s8 77))]) (st := []) rfl rfl rfl rfl (k_wrong3 G Is8 (by first | exact ⟨by decide, by decide⟩ | omega) (by first | exact ⟨oq_ca54ea22 b82.1, b82.2⟩ | omega)) rfl (Nat.le_of_ble_eq_true rfl) (fun s83 Is83 Fs83 hps83 => ?_)
            have Gs83 := fm_tq Gs8 Fs83 rfl rfl
            have JFDB_s83 : FDB B N s83 := FDB_fm Fs83 (by decide) JFDB_s8
            have ws83_77 : iI s83 77 = iI s8 77 := fm_iq Fs83 rfl
            have ws83_75 : iI s83 75 = iI s8 75 := fm_iq Fs83 rfl
            have b85 := bi_79 Is83
            have ws83_78 : iI s83 78 = iI s8 78 := fm_iq Fs83 rfl
            have ws83_86 : iI s83 86 = iI s8 86 := fm_iq Fs83 rfl
            have ws83_87 : iI s83 87 = iI s8 87 := fm_iq Fs83 rfl
            have ws83_88 : iI s83 88 = iI s8 88 := fm_iq Fs83 rfl
            refine z_aload_n X (x := A 179) rfl (List.Mem.tail _ (List.Mem.tail _ (List.Mem.tail _ (List.Mem.head _)))) (z_getI X 179 rfl (c518_ok rfl) rfl rfl ?_)
            have b86 := bi_79 Is83
            refine z_if_eq X (t := 95) rfl rfl (rng_to _) (fun g87 => ?_) (fun g87 => ?_)
            ·
              exfalso
              omega
            ·
              exact w_vret X.1 q hRt (ax_d X (show cdA 213 94 = some (.return_, 1, 0, 0, 0) from rfl)) (Nat.zero_le _) (Nat.zero_le _) ⟨_, rfl, Is83, Gs83, JFDB_s83, rfl, ⟨by first | exact oq_7fe879e0 ws83_78 ws8_78 p1 b4.1 | omega, by first | exact oq_9272904e ws83_77 hps8.2.2.1 | omega, by first | exact oq_825ee5b4 ws83_77 hps8.2.2.2 b2.2 hN p2 | (clear g87 hps83 g53 he20 he15 hps8; omega) | (clear hps83 g53 he20 he15 hps8; omega) | omega, by first | exact oq_f7664523 g87 b86.1 | omega, by first | exact oq_ea1d993c ws83_86 ws83_87 ws8_87 b6.2 g55 | omega, by first | exact oq_2dbfa935 g87 b86.1 | omega, cln_no (clm_3 (by first | exact Or.inr (oq_cc51afe1 g53 re20.1 he20 hk18 hwv) | (clear g87 hps83 g53 he20 he15 hps8; omega) | (clear hps83 g53 he20 he15 hps8; omega) | omega) (by first | exact oq_882d2e9a g55 ws8_86 | (clear g87 hps83 g53 he20 he15 hps8; omega) | (clear hps83 g53 he20 he15 hps8; omega) | omega) (by first | exact oq_dfefd463 g87 b86.1 hps83 ws8_79 p0 | (clear g87 hps83 g53 he20 he15 hps8; omega) | (clear hps83 g53 he20 he15 hps8; omega) | omega)) (by first | exact g87 | (clear g87 hps83 g53 he20 he15 hps8; omega) | (clear hps83 g53 he20 he15 hps8; omega) | omega)⟩⟩
        ·
          refine z_aload_n X (x := A 179) rfl (List.Mem.tail _ (List.Mem.tail _ (List.Mem.tail _ (List.Mem.head _)))) (z_const X rfl (z_aload_n X (x := A 179) rfl (List.Mem.tail _ (List.Mem.tail _ (List.Mem.tail _ (List.Mem.head _)))) (z_getI X 179 rfl (c518_ok rfl) rfl rfl ?_)))
          have b88 := bi_77 Is8
          refine zcV_v0 X E 179 (As := [.int (Int32.ofInt 1), .int (Int32.ofInt (iI s8 77))]) (st := []) rfl rfl rfl rfl (k_wrong3 G Is8 (by first | exact ⟨by decide, by decide⟩ | omega) (by first | exact ⟨oq_ca54ea22 b88.1, b88.2⟩ | omega)) rfl (Nat.le_of_ble_eq_true rfl) (fun s89 Is89 Fs89 hps89 => ?_)
          have Gs89 := fm_tq Gs8 Fs89 rfl rfl
          have JFDB_s89 : FDB B N s89 := FDB_fm Fs89 (by decide) JFDB_s8
          have ws89_77 : iI s89 77 = iI s8 77 := fm_iq Fs89 rfl
          have ws89_75 : iI s89 75 = iI s8 75 := fm_iq Fs89 rfl
          have b91 := bi_79 Is89
          have ws89_78 : iI s89 78 = iI s8 78 := fm_iq Fs89 rfl
          have ws89_86 : iI s89 86 = iI s8 86 := fm_iq Fs89 rfl
          have ws89_87 : iI s89 87 = iI s8 87 := fm_iq Fs89 rfl
          have ws89_88 : iI s89 88 = iI s8 88 := fm_iq Fs89 rfl
          refine z_goto X (t := 87) rfl rfl (z_aload_n X (x := A 179) rfl (List.Mem.tail _ (List.Mem.tail _ (List.Mem.tail _ (List.Mem.head _)))) (z_getI X 179 rfl (c518_ok rfl) rfl rfl ?_))
          have b92 := bi_79 Is89
          refine z_if_eq X (t := 95) rfl rfl (rng_to _) (fun g93 => ?_) (fun g93 => ?_)
          ·
            exfalso
            omega
          ·
            exact w_vret X.1 q hRt (ax_d X (show cdA 213 94 = some (.return_, 1, 0, 0, 0) from rfl)) (Nat.zero_le _) (Nat.zero_le _) ⟨_, rfl, Is89, Gs89, JFDB_s89, rfl, ⟨by first | exact oq_7fe879e0 ws89_78 ws8_78 p1 b4.1 | omega, by first | exact oq_9272904e ws89_77 hps8.2.2.1 | omega, by first | exact oq_825ee5b4 ws89_77 hps8.2.2.2 b2.2 hN p2 | (clear g93 hps89 he20 he15 hps8; omega) | (clear hps89 he20 he15 hps8; omega) | omega, by first | exact oq_f7664523 g93 b92.1 | omega, by first | exact oq_4407eb3c ws89_86 ws89_87 ws8_86 ws8_87 p3 | omega, by first | exact oq_2dbfa935 g93 b92.1 | omega, cln_no (clm_1 (by first | exact oq_05244a56 g21 he15 hk13 hwv | (clear g93 hps89 he20 he15 hps8; omega) | (clear hps89 he20 he15 hps8; omega) | omega) (by first | exact oq_5c903396 g53 he20 hk18 hwv | (clear g93 hps89 he20 he15 hps8; omega) | (clear hps89 he20 he15 hps8; omega) | omega) (by first | exact oq_d5228e69 g93 b92.1 hps89 ws8_79 p0 | (clear g93 hps89 he20 he15 hps8; omega) | (clear hps89 he20 he15 hps8; omega) | omega)) (by first | exact g93 | (clear g93 hps89 he20 he15 hps8; omega) | (clear hps89 he20 he15 hps8; omega) | omega)⟩⟩
    refine z_icmp_ne X (t := 47) rfl rfl hrs8 hrs16 (fun g94 => ?_) (fun g94 => ?_)
    ·
      exact z_const X rfl (N19 _ (Or.inl ⟨g94, rfl⟩))
    ·
      exact z_const X rfl (z_goto X (t := 48) rfl rfl (N19 _ (Or.inr (⟨g94, rfl⟩))))
  refine z_icmp_ne X (t := 24) rfl rfl hrs8 hrs11 (fun g95 => ?_) (fun g95 => ?_)
  ·
    exact z_const X rfl (N14 _ (Or.inl ⟨g95, rfl⟩))
  ·
    exact z_const X rfl (z_goto X (t := 25) rfl rfl (N14 _ (Or.inr (⟨g95, rfl⟩))))
set_option maxRecDepth 4000 in
theorem k_rules4 (G : GX l s0 D tys a0 dT) {B : Nat → Int} (I : Bd s) (jFDA : FDA B s) {x : Int} (p0 : rng x) : CT l s0 D A dT 214 (rmN 214) [.ref (A 179), .int (Int32.ofInt x)] s (fun o t => Bd t ∧ Fm [73, 74, 76, 82, 83, 84, 85, 77, 75, 78, 79, 80, 81, 86, 87, 88] [160, 159, 158] s t ∧ FDA B t ∧ ∃ e, o = .inl (some (.int (Int32.ofInt e))) ∧ rng e ∧ ((0 ≤ x ∧ x ≤ iI s 74 ∧ iI t 74 = 0 ∧ iI t 73 = 0 ∧ ((0 ≤ e ∧ RLM B x e t) ∨ (e < 0 ∧ RUA B x e ∧ iI t 85 = iI s 85 ∧ iI t 82 = iI s 82 ∧ SAM 158 s t))) ∨ ((x < 0 ∨ iI s 74 < x) ∧ iI t 74 = iI s 74 ∧ iI t 73 = 1 ∧ iI t 85 = iI s 85 ∧ iI t 82 = iI s 82 ∧ SAM 158 s t))) := by
  refine ct_of G (by decide) (Nat.le_of_ble_eq_true rfl) (fun k X E hRt hXt q => ?_)
  show WS k 0 [(0, .ref (A 179)), (1, .int (Int32.ofInt x))] [] _ 0 0
  have F : Fm [73, 74, 76, 82, 83, 84, 85, 77, 75, 78, 79, 80, 81, 86, 87, 88] [160, 159, 158] s s := fm_rf _ _ s
  have aw0_158 : SAM 158 s s := sam_rf
  have b1 := bi_73 I
  have b2 := bi_74 I
  have b3 := bi_77 I
  have b4 := bi_75 I
  have b5 := bi_79 I
  have b6 := bi_78 I
  have b7 := bi_86 I
  have b8 := bi_87 I
  have b9 := bi_88 I
  have b10 := bi_81 I
  have b11 := bi_83 I
  have b12 := bi_85 I
  have b13 := bi_82 I
  have L61 : ∀ (n : Nat) (t : PS) (xv : Int), Bd t → Fm [73, 74, 76, 82, 83, 84, 85, 77, 75, 78, 79, 80, 81, 86, 87, 88] [160, 159, 158] s t → FDA B t → (CHO B x t ∧ sk B x (iI t 77) = iI t 77 ∧ SAM 158 s t) → (xv = x ∧ (0 ≤ x ∧ x ≤ iI s 74 ∧ x ≤ 200) ∧ iI t 74 = 0 ∧ iI t 75 = x ∧ iI t 78 = 0 ∧ iI t 77 ≤ 203 ∧ (iI t 79 = 0 → iI t 77 ≤ iI t 75) ∧ iI t 87 ≤ iI t 86 ∧ iI t 81 = 0 ∧ iI t 73 = 0 ∧ iI t 85 = iI s 85 ∧ iI t 82 = iI s 82) → (400 - iI t 77 + (9 - iI t 79) : Int).toNat < n → (∀ (t' : PS), Bd t' → Fm [73, 74, 76, 82, 83, 84, 85, 77, 75, 78, 79, 80, 81, 86, 87, 88] [160, 159, 158] s t' → FDA B t' → (CHO B x t' ∧ sk B x (iI t' 77) = iI t' 77 ∧ SAM 158 s t') → (xv = x ∧ (0 ≤ x ∧ x ≤ iI s 74 ∧ x ≤ 200) ∧ iI t' 74 = 0 ∧ iI t' 75 = x ∧ iI t' 78 = 0 ∧ iI t' 77 ≤ 203 ∧ (iI t' 79 = 0 → iI t' 77 ≤ iI t' 75) ∧ iI t' 87 ≤ iI t' 86 ∧ iI t' 81 = 0 ∧ iI t' 73 = 0 ∧ iI t' 85 = iI s 85 ∧ iI t' 82 = iI s 82 ∧ (iI t' 79 = 0 → x ≤ iI t' 77)) → WS k 90 [(0, .ref (A 179)), (1, .int (Int32.ofInt xv))] [] (Wd A dT t') 0 0) → WS k 61 [(0, .ref (A 179)), (1, .int (Int32.ofInt xv))] [] (Wd A dT t) 0 0 := by
    intro n
    induction n with
    | zero =>
      intro t xv I F jjFDA hq hi hm kx
      exact absurd hm (Nat.not_lt_zero _)
    | succ n ih =>
      intro t xv I F jjFDA hq hi hm kx
      have b1001 := bi_73 I
      have b1002 := bi_74 I
      have b1003 := bi_77 I
      have b1004 := bi_75 I
      have b1005 := bi_79 I
      have b1006 := bi_78 I
      have b1007 := bi_86 I
      have b1008 := bi_87 I
      have b1009 := bi_88 I
      have b1010 := bi_81 I
      have b1011 := bi_83 I
      have b1012 := bi_85 I
      have b1013 := bi_82 I
      have JBt : FDB B x t := ⟨fda_n jjFDA (by first | exact hi.2.2.2.2.2.2.2.2.1 | omega) (by first | exact hi.2.1.2.2 | omega), by first | exact hi.2.2.2.1 | omega, by first | exact b1010.1 | omega⟩
      have hN : iI t 75 = x := by first | exact hi.2.2.2.1 | omega
      refine z_aload_n X (x := A 179) rfl (List.Mem.head _) (z_getI X 179 rfl (c518_ok rfl) rfl rfl ?_)
      have b1014 := bi_79 I
      refine z_if_ne X (t := 90) rfl rfl (rng_to _) (fun g1015 => ?_) (fun g1015 => ?_)
      ·
        refine WS_pq [0, 1] (lv' := [(0, .ref (A 179)), (1, .int (Int32.ofInt xv))]) rfl ?_
        exact kx _  I F jjFDA hq (by first | exact ⟨hi.1, And.intro (hi.2.1.1) (And.intro (hi.2.1.2.1) (hi.2.1.2.2)), hi.2.2.1, hN, hi.2.2.2.2.1, hi.2.2.2.2.2.1, hi.2.2.2.2.2.2.1, hi.2.2.2.2.2.2.2.1, hi.2.2.2.2.2.2.2.2.1, hi.2.2.2.2.2.2.2.2.2.1, hi.2.2.2.2.2.2.2.2.2.2.1, hi.2.2.2.2.2.2.2.2.2.2.2, oq_6a3c9b31 g1015 b1014.1⟩ | omega)
      ·
        refine z_aload_n X (x := A 179) rfl (List.Mem.head _) (z_getI X 179 rfl (c518_ok rfl) rfl rfl ?_)
        have b1016 := bi_77 I
        refine z_aload_n X (x := A 179) rfl (List.Mem.head _) (z_getI X 179 rfl (c518_ok rfl) rfl rfl ?_)
        have b1017 := bi_75 I
        refine z_icmp_ge X (t := 90) rfl rfl (rng_to _) (rng_to _) (fun g1018 => ?_) (fun g1018 => ?_)
        ·
          refine WS_pq [0, 1] (lv' := [(0, .ref (A 179)), (1, .int (Int32.ofInt xv))]) rfl ?_
          exact kx _  I F jjFDA hq (by first | exact ⟨hi.1, And.intro (hi.2.1.1) (And.intro (hi.2.1.2.1) (hi.2.1.2.2)), hi.2.2.1, hN, hi.2.2.2.2.1, hi.2.2.2.2.2.1, hi.2.2.2.2.2.2.1, hi.2.2.2.2.2.2.2.1, hi.2.2.2.2.2.2.2.2.1, hi.2.2.2.2.2.2.2.2.2.1, hi.2.2.2.2.2.2.2.2.2.2.1, hi.2.2.2.2.2.2.2.2.2.2.2, oq_7b48b746 g1018 hN⟩ | omega)
        ·
          refine z_aload_n X (x := A 179) rfl (List.Mem.head _) (zcV_v1 X E 179 (As := []) (st := []) rfl rfl rfl rfl (k_clause4 G I JBt (by first | exact g1015 | omega) (by first | exact hi.2.2.2.2.1 | omega) (by first | exact oq_161a6600 g1018 | omega) (by first | exact hi.2.2.2.2.2.2.2.1 | omega)) rfl (Nat.le_of_ble_eq_true rfl) (fun s1019 Is1019 Fs1019 JFDB_s1019 hps1019 => ?_))
          have hps1019p := And.intro hps1019.1 (And.intro hps1019.2.1 (And.intro hps1019.2.2.1 (And.intro hps1019.2.2.2.2.1 (hps1019.2.2.2.2.2.2))))
          have Gs1019 := fm_tq F Fs1019 rfl rfl
          have JFDA_s1019 : FDA B s1019 := FDA_fm Fs1019 (by decide) jjFDA
          have JFDB_s1019 : FDB B x s1019 := FDB_fm Fs1019 (by decide) JBt
          have ws1019_73 : iI s1019 73 = iI t 73 := fm_iq Fs1019 rfl
          have ws1019_74 : iI s1019 74 = iI t 74 := fm_iq Fs1019 rfl
          have b1021 := bi_77 Is1019
          have ws1019_75 : iI s1019 75 = iI t 75 := fm_iq Fs1019 rfl
          have b1022 := bi_79 Is1019
          have b1023 := bi_78 Is1019
          have b1024 := bi_86 Is1019
          have b1025 := bi_87 Is1019
          have b1026 := bi_88 Is1019
          have ws1019_81 : iI s1019 81 = iI t 81 := fm_iq Fs1019 rfl
          have ws1019_83 : iI s1019 83 = iI t 83 := fm_iq Fs1019 rfl
          have ws1019_85 : iI s1019 85 = iI t 85 := fm_iq Fs1019 rfl
          have ws1019_82 : iI s1019 82 = iI t 82 := fm_iq Fs1019 rfl
          have aws1019_158 : SAM 158 t s1019 := sam_ts (sam_rf (a := 158) (s := t)) (sam_fm Fs1019 (by decide))
          refine z_aload_n X (x := A 179) rfl (List.Mem.head _) (zcV_v1 X E 179 (As := []) (st := []) rfl rfl rfl rfl (k_blanks2 G Is1019 JFDB_s1019 (by first | exact oq_2ebc9f52 hps1019.2.2.1 | omega)) rfl (Nat.le_of_ble_eq_true rfl) (fun s1027 Is1027 Fs1027 JFDB_s1027 hps1027 => ?_))
          have hps1027p := And.intro hps1027.1 (hps1027.2.1)
          have Gs1027 := fm_tq Gs1019 Fs1027 rfl rfl
          have JFDA_s1027 : FDA B s1027 := FDA_fm Fs1027 (by decide) JFDA_s1019
          have JFDB_s1027 : FDB B x s1027 := FDB_fm Fs1027 (by decide) JFDB_s1019
          have ws1027_73 : iI s1027 73 = iI s1019 73 := fm_iq Fs1027 rfl
          have ws1027_74 : iI s1027 74 = iI s1019 74 := fm_iq Fs1027 rfl
          have b1029 := bi_77 Is1027
          have ws1027_75 : iI s1027 75 = iI s1019 75 := fm_iq Fs1027 rfl
          have ws1027_79 : iI s1027 79 = iI s1019 79 := fm_iq Fs1027 rfl
          have ws1027_78 : iI s1027 78 = iI s1019 78 := fm_iq Fs1027 rfl
          have ws1027_86 : iI s1027 86 = iI s1019 86 := fm_iq Fs1027 rfl
          have ws1027_87 : iI s1027 87 = iI s1019 87 := fm_iq Fs1027 rfl
          have ws1027_88 : iI s1027 88 = iI s1019 88 := fm_iq Fs1027 rfl
          have ws1027_81 : iI s1027 81 = iI s1019 81 := fm_iq Fs1027 rfl
          have ws1027_83 : iI s1027 83 = iI s1019 83 := fm_iq Fs1027 rfl
          have ws1027_85 : iI s1027 85 = iI s1019 85 := fm_iq Fs1027 rfl
          have ws1027_82 : iI s1027 82 = iI s1019 82 := fm_iq Fs1027 rfl
          have aws1027_158 : SAM 158 t s1027 := sam_ts aws1019_158 (sam_fm Fs1027 (by decide))
          refine z_goto X (t := 61) rfl rfl (WS_pq [0, 1] (lv' := [(0, .ref (A 179)), (1, .int (Int32.ofInt xv))]) rfl ?_)
          exact ih _ xv Is1027 Gs1027 JFDA_s1027 ⟨cho_mv (cho_up hq.1 (by first | exact g1015 | (clear hps1027 hps1019; omega) | (clear hps1019; omega) | omega) (by first | exact b1007.1 | (clear hps1027 hps1019; omega) | (clear hps1019; omega) | omega) (by rw [hq.2.1]; exact ⟨by first | exact b1016.1 | (clear hps1027 hps1019; omega) | (clear hps1019; omega) | omega, by first | exact oq_9d1a6c71 g1018 hN | (clear hps1027 hps1019; omega) | (clear hps1019; omega) | omega⟩) hps1019.2.2.2.2.2.2 (by first | exact hps1019.2.2.2.2.2.1 | (clear hps1027 hps1019; omega) | (clear hps1019; omega) | omega)) (by first | exact ws1027_79 | (clear hps1027 hps1019; omega) | (clear hps1019; omega) | omega) (by first | exact ws1027_86 | (clear hps1027 hps1019; omega) | (clear hps1019; omega) | omega) (by rw [hps1027.1]; exact sk_sk) (by first | exact ws1027_88 | (clear hps1027 hps1019; omega) | (clear hps1019; omega) | omega), by rw [hps1027.1]; exact sk_sk, sam_ts hq.2.2 aws1027_158⟩ (by first | exact ⟨hi.1, And.intro (hi.2.1.1) (And.intro (hi.2.1.2.1) (hi.2.1.2.2)), oq_7fe879e0 ws1027_74 ws1019_74 hi.2.2.1 b1002.1, oq_878618b1 ws1027_75 ws1019_75 hN, oq_333640b7 ws1027_78 hps1019.1 b1023.1, by first | exact oq_476f83b9 hps1027.2.2 hps1019p.2.2.1 hi.2.1.2.2 | (clear hps1027 hps1019; omega) | (clear hps1019; omega) | omega, by first | exact oq_83b3dadf ws1027_79 ws1027_75 hps1027.2.2 b1022.1 ws1019_75 hps1019.2.2.2.1 hN | (clear hps1027 hps1019; omega) | (clear hps1019; omega) | omega, oq_e7b9ecab ws1027_86 ws1027_87 hps1019.2.2.2.2.1, oq_7fe879e0 ws1027_81 ws1019_81 hi.2.2.2.2.2.2.2.2.1 b1010.1, oq_7fe879e0 ws1027_73 ws1019_73 hi.2.2.2.2.2.2.2.2.2.1 b1001.1, oq_d0d2714e ws1027_85 hi.2.2.2.2.2.2.2.2.2.2.1 ws1019_85, oq_d0d2714e ws1027_82 hi.2.2.2.2.2.2.2.2.2.2.2 ws1019_82⟩ | omega) (by first | exact qk_me hm (oq_5b7b6df3 ws1027_79 hps1027.2.1 b1022.1 hps1019.2.2.2.1 hps1019.2.1 g1015) (oq_faaf1092 g1015 b1016.2) | omega) kx
  have L115 : ∀ (n : Nat) (t : PS) (xv c : Int), Bd t → Fm [73, 74, 76, 82, 83, 84, 85, 77, 75, 78, 79, 80, 81, 86, 87, 88] [160, 159, 158] s t → FDA B t → ((∃ (k : Int) (cc : List Int), RUQ B x (iI t 86) k cc (iI t 88)) ∧ ∀ j : Nat, (j : Int) < c → iC t 158 j = B j) → (xv = x ∧ (0 ≤ x ∧ x ≤ iI s 74) ∧ iI t 74 = 0 ∧ 0 ≤ c ∧ c ≤ 200 ∧ iI t 87 ≤ iI t 86 ∧ iI t 75 ≤ 200 ∧ iI t 73 = 0 ∧ x ≤ 200 ∧ iI t 79 = 0) → (200 - c : Int).toNat < n → (∀ (t' : PS) (c' : Int), Bd t' → Fm [73, 74, 76, 82, 83, 84, 85, 77, 75, 78, 79, 80, 81, 86, 87, 88] [160, 159, 158] s t' → FDA B t' → ((∃ (k : Int) (cc : List Int), RUQ B x (iI t' 86) k cc (iI t' 88)) ∧ ∀ j : Nat, (j : Int) < c' → iC t' 158 j = B j) → (xv = x ∧ (0 ≤ x ∧ x ≤ iI s 74) ∧ iI t' 74 = 0 ∧ 0 ≤ c' ∧ c' ≤ 200 ∧ iI t' 87 ≤ iI t' 86 ∧ iI t' 75 ≤ 200 ∧ iI t' 73 = 0 ∧ x ≤ 200 ∧ iI t' 79 = 0 ∧ x ≤ c') → WS k 138 [(0, .ref (A 179)), (1, .int (Int32.ofInt xv)), (2, .int (Int32.ofInt c'))] [] (Wd A dT t') 0 0) → WS k 115 [(0, .ref (A 179)), (1, .int (Int32.ofInt xv)), (2, .int (Int32.ofInt c))] [] (Wd A dT t) 0 0 := by
    intro n
    induction n with
    | zero =>
      intro t xv c I F jjFDA hq hi hm kx
      exact absurd hm (Nat.not_lt_zero _)
    | succ n ih =>
      intro t xv c I F jjFDA hq hi hm kx
      have b2001 := bi_73 I
      have b2002 := bi_74 I
      have b2003 := bi_77 I
      have b2004 := bi_75 I
      have b2005 := bi_79 I
      have b2006 := bi_78 I
      have b2007 := bi_86 I
      have b2008 := bi_87 I
      have b2009 := bi_88 I
      have b2010 := bi_81 I
      have b2011 := bi_83 I
      have b2012 := bi_85 I
      have b2013 := bi_82 I
      refine z_load_n X (x := c) rfl (List.Mem.tail _ (List.Mem.tail _ (List.Mem.head _))) (z_load_n X (x := xv) rfl (List.Mem.tail _ (List.Mem.head _)) (z_icmp_ge X (t := 138) rfl rfl ⟨by first | exact oq_fa4e5087 hi.2.2.2.1 | omega, by first | exact oq_52af2b96 hi.2.2.2.2.1 | omega⟩ ⟨by first | exact oq_b3df2c6f hi.1 hi.2.1.1 | omega, by first | exact oq_ec2e99bd hi.1 hi.2.2.2.2.2.2.2.2.1 | omega⟩ (fun g2014 => ?_) (fun g2014 => ?_)))
      ·
        refine WS_pq [0, 1, 2] (lv' := [(0, .ref (A 179)), (1, .int (Int32.ofInt xv)), (2, .int (Int32.ofInt c))]) rfl ?_
        exact kx _ c I F jjFDA hq (by first | exact ⟨hi.1, And.intro (hi.2.1.1) (hi.2.1.2), hi.2.2.1, hi.2.2.2.1, hi.2.2.2.2.1, hi.2.2.2.2.2.1, b2004.2, hi.2.2.2.2.2.2.2.1, hi.2.2.2.2.2.2.2.2.1, hi.2.2.2.2.2.2.2.2.2, oq_acf76229 g2014 hi.1⟩ | omega)
      ·
        have hFd : iC t 157 (c : Int).toNat = B (c : Int).toNat := jjFDA _ (by first | exact oq_6090b535 g2014 hi.2.2.2.2.2.2.2.2.1 hi.1 | omega)
        refine z_aload_n X (x := A 179) rfl (List.Mem.head _) (s_getR X 179 rfl (c518_ok rfl) rfl rfl (z_load_n X (x := c) rfl (List.Mem.tail _ (List.Mem.tail _ (List.Mem.head _))) (z_aload_n X (x := A 179) rfl (List.Mem.head _) (s_getR X 179 rfl (c518_ok rfl) rfl rfl (z_load_n X (x := c) rfl (List.Mem.tail _ (List.Mem.tail _ (List.Mem.head _))) (z_ald X 180 rfl (c518_ok rfl) rfl (by first | exact hi.2.2.2.1 | omega) (show c < 200 by first | exact oq_a2afda0c g2014 hi.1 hi.2.2.2.2.2.2.2.2.1 | omega) (cbig_ok rfl) ?_))))))
        have b2015 := bc_157 I (show (c).toNat < 200 by first | exact oq_7290672e g2014 hi.1 hi.2.2.2.2.2.2.2.2.1 | omega)
        refine z_ast X 181 rfl (c518_ok rfl) rfl (by first | exact hi.2.2.2.1 | omega) (show c < 200 by first | exact oq_a2afda0c g2014 hi.1 hi.2.2.2.2.2.2.2.2.1 | omega) (cbig_ok rfl) (wd_gen (fun s2016 hs2016 => ?_))
        have Is2016 : Bd s2016 := eqB hs2016 (bd_C I (show (0 : Int) ≤ (iC t 157 (c).toNat) ∧ (iC t 157 (c).toNat) ≤ 255 by first | exact ⟨b2015.1, b2015.2⟩ | omega) (rng_to _))
        have Fs2016 := eqF hs2016 (fm_C F (inl_ok (a := 158) rfl))
        have ws2016_73 : iI s2016 73 = iI t 73 := eqI hs2016 rfl
        have ws2016_74 : iI s2016 74 = iI t 74 := eqI hs2016 rfl
        have ws2016_77 : iI s2016 77 = iI t 77 := eqI hs2016 rfl
        have ws2016_75 : iI s2016 75 = iI t 75 := eqI hs2016 rfl
        have ws2016_79 : iI s2016 79 = iI t 79 := eqI hs2016 rfl
        have ws2016_78 : iI s2016 78 = iI t 78 := eqI hs2016 rfl
        have ws2016_86 : iI s2016 86 = iI t 86 := eqI hs2016 rfl
        have ws2016_87 : iI s2016 87 = iI t 87 := eqI hs2016 rfl
        have ws2016_88 : iI s2016 88 = iI t 88 := eqI hs2016 rfl
        have ws2016_81 : iI s2016 81 = iI t 81 := eqI hs2016 rfl
        have ws2016_83 : iI s2016 83 = iI t 83 := eqI hs2016 rfl
        have ws2016_85 : iI s2016 85 = iI t 85 := eqI hs2016 rfl
        have ws2016_82 : iI s2016 82 = iI t 82 := eqI hs2016 rfl
        have aws2016_158 : UPD 158 (c) (iC t 157 (c).toNat) t s2016 := by rw [hs2016]; exact upd_put (sam_rf (a := 158) (s := t)) (rng_to _)
        have fs2016 : Fm [] [158] t s2016 := by rw [hs2016]; exact fm_C (fm_rf _ _ _) (show 158 ∈ _ by decide)
        have JFDA_s2016 : FDA B s2016 := FDA_fm fs2016 (by decide) jjFDA
        refine z_inc X (x := c) (lv' := [(2, .int (Int32.ofInt (c + 1))), (0, .ref (A 179)), (1, .int (Int32.ofInt xv))]) rfl (by decide) (List.Mem.tail _ (List.Mem.tail _ (List.Mem.head _))) (fun _ h => h) (z_goto X (t := 115) rfl rfl (WS_pq [1, 2, 0] (lv' := [(0, .ref (A 179)), (1, .int (Int32.ofInt xv)), (2, .int (Int32.ofInt (c + 1)))]) rfl ?_))
        exact ih _ xv (c + 1) Is2016 Fs2016 JFDA_s2016 ⟨by rw [show iI s2016 86 = iI t 86 by first | exact ws2016_86 | omega, show iI s2016 88 = iI t 88 by first | exact ws2016_88 | omega]; exact hq.1, rcp_up hq.2 (by first | exact hi.2.2.2.1 | omega) aws2016_158 hFd⟩ (by first | exact ⟨hi.1, And.intro (hi.2.1.1) (hi.2.1.2), oq_333640b7 ws2016_74 hi.2.2.1 b2002.1, oq_54f49eb5 hi.2.2.2.1, oq_44170929 g2014 hi.1 hi.2.2.2.2.2.2.2.2.1, oq_e7b9ecab ws2016_86 ws2016_87 hi.2.2.2.2.2.1, oq_b1fe1193 ws2016_75 b2004.2, oq_333640b7 ws2016_73 hi.2.2.2.2.2.2.2.1 b2001.1, hi.2.2.2.2.2.2.2.2.1, oq_333640b7 ws2016_79 hi.2.2.2.2.2.2.2.2.2 b2005.1⟩ | omega) (by first | exact qk_me hm (by decide) (oq_1d5bb5f6 g2014 hi.1 hi.2.2.2.2.2.2.2.2.1) | exact oq_61822bb0 g2014 hm hi.2.2.2.2.2.2.2.2.1 hi.1 | omega) kx
  have L169 : ∀ (n : Nat) (t : PS) (xv c : Int), Bd t → Fm [73, 74, 76, 82, 83, 84, 85, 77, 75, 78, 79, 80, 81, 86, 87, 88] [160, 159, 158] s t → FDA B t → ((∃ (k : Int) (cc : List Int), RUQ B x (iI t 83) k cc (iI t 85)) ∧ iI t 82 = x ∧ ∀ j : Nat, (j : Int) < x → iC t 158 j = B j) → (xv = x ∧ (0 ≤ x ∧ x ≤ iI s 74) ∧ iI t 74 = 0 ∧ 0 ≤ c ∧ c ≤ 8 ∧ iI t 73 = 0 ∧ iI t 82 = x) → (8 - c : Int).toNat < n → (∀ (t' : PS) (c' : Int), Bd t' → Fm [73, 74, 76, 82, 83, 84, 85, 77, 75, 78, 79, 80, 81, 86, 87, 88] [160, 159, 158] s t' → FDA B t' → ((∃ (k : Int) (cc : List Int), RUQ B x (iI t' 83) k cc (iI t' 85)) ∧ iI t' 82 = x ∧ ∀ j : Nat, (j : Int) < x → iC t' 158 j = B j) → (xv = x ∧ (0 ≤ x ∧ x ≤ iI s 74) ∧ iI t' 74 = 0 ∧ 0 ≤ c' ∧ c' ≤ 8 ∧ iI t' 73 = 0 ∧ iI t' 82 = x) → WS k 195 [(0, .ref (A 179)), (1, .int (Int32.ofInt xv)), (2, .int (Int32.ofInt c'))] [] (Wd A dT t') 0 0) → WS k 169 [(0, .ref (A 179)), (1, .int (Int32.ofInt xv)), (2, .int (Int32.ofInt c))] [] (Wd A dT t) 0 0 := by
    intro n
    induction n with
    | zero =>
      intro t xv c I F jjFDA hq hi hm kx
      exact absurd hm (Nat.not_lt_zero _)
    | succ n ih =>
      intro t xv c I F jjFDA hq hi hm kx
      have b3001 := bi_73 I
      have b3002 := bi_74 I
      have b3003 := bi_77 I
      have b3004 := bi_75 I
      have b3005 := bi_79 I
      have b3006 := bi_78 I
      have b3007 := bi_86 I
      have b3008 := bi_87 I
      have b3009 := bi_88 I
      have b3010 := bi_81 I
      have b3011 := bi_83 I
      have b3012 := bi_85 I
      have b3013 := bi_82 I
      refine z_load_n X (x := c) rfl (List.Mem.tail _ (List.Mem.tail _ (List.Mem.head _))) (z_aload_n X (x := A 179) rfl (List.Mem.head _) (z_getI X 179 rfl (c518_ok rfl) rfl rfl ?_))
      have b3014 := bi_84 I
      refine z_icmp_ge X (t := 195) rfl rfl ⟨by first | exact oq_fa4e5087 hi.2.2.2.1 | omega, by first | exact oq_d3f5d874 hi.2.2.2.2.1 | omega⟩ (rng_to _) (fun g3015 => ?_) (fun g3015 => ?_)
      ·
        refine WS_pq [0, 1, 2] (lv' := [(0, .ref (A 179)), (1, .int (Int32.ofInt xv)), (2, .int (Int32.ofInt c))]) rfl ?_
        exact kx _ c I F jjFDA hq (by first | exact ⟨hi.1, And.intro (hi.2.1.1) (hi.2.1.2), hi.2.2.1, hi.2.2.2.1, hi.2.2.2.2.1, hi.2.2.2.2.2.1, hi.2.2.2.2.2.2⟩ | omega)
      ·
        refine z_aload_n X (x := A 179) rfl (List.Mem.head _) (s_getR X 179 rfl (c518_ok rfl) rfl rfl (z_load_n X (x := c) rfl (List.Mem.tail _ (List.Mem.tail _ (List.Mem.head _))) (z_aload_n X (x := A 179) rfl (List.Mem.head _) (s_getR X 179 rfl (c518_ok rfl) rfl rfl (z_load_n X (x := c) rfl (List.Mem.tail _ (List.Mem.tail _ (List.Mem.head _))) (z_ald X 183 rfl (c518_ok rfl) rfl (by first | exact hi.2.2.2.1 | omega) (show c < 8 by first | exact oq_7f5b2e79 g3015 b3014.2 | omega) (cbig_ok rfl) ?_))))))
        have b3016 := bc_160 I (show (c).toNat < 8 by first | exact oq_67be0351 g3015 b3014.2 | omega)
        refine z_ast X 182 rfl (c518_ok rfl) rfl (by first | exact hi.2.2.2.1 | omega) (show c < 8 by first | exact oq_7f5b2e79 g3015 b3014.2 | omega) (cbig_ok rfl) (wd_gen (fun s3017 hs3017 => ?_))
        have Is3017 : Bd s3017 := eqB hs3017 (bd_C I (show (0 : Int) ≤ (iC t 160 (c).toNat) ∧ (iC t 160 (c).toNat) ≤ 200 by first | exact ⟨b3016.1, b3016.2⟩ | omega) (rng_to _))
        have Fs3017 := eqF hs3017 (fm_C F (inl_ok (a := 159) rfl))
        have ws3017_73 : iI s3017 73 = iI t 73 := eqI hs3017 rfl
        have ws3017_74 : iI s3017 74 = iI t 74 := eqI hs3017 rfl
        have ws3017_77 : iI s3017 77 = iI t 77 := eqI hs3017 rfl
        have ws3017_75 : iI s3017 75 = iI t 75 := eqI hs3017 rfl
        have ws3017_79 : iI s3017 79 = iI t 79 := eqI hs3017 rfl
        have ws3017_78 : iI s3017 78 = iI t 78 := eqI hs3017 rfl
        have ws3017_86 : iI s3017 86 = iI t 86 := eqI hs3017 rfl
        have ws3017_87 : iI s3017 87 = iI t 87 := eqI hs3017 rfl
        have ws3017_88 : iI s3017 88 = iI t 88 := eqI hs3017 rfl
        have ws3017_81 : iI s3017 81 = iI t 81 := eqI hs3017 rfl
        have ws3017_83 : iI s3017 83 = iI t 83 := eqI hs3017 rfl
        have ws3017_85 : iI s3017 85 = iI t 85 := eqI hs3017 rfl
        have ws3017_82 : iI s3017 82 = iI t 82 := eqI hs3017 rfl
        have aws3017_158 : SAM 158 t s3017 := by rw [hs3017]; exact sam_C (by decide) (sam_rf (a := 158) (s := t))
        have fs3017 : Fm [] [159] t s3017 := by rw [hs3017]; exact fm_C (fm_rf _ _ _) (show 159 ∈ _ by decide)
        have JFDA_s3017 : FDA B s3017 := FDA_fm fs3017 (by decide) jjFDA
        refine z_inc X (x := c) (lv' := [(2, .int (Int32.ofInt (c + 1))), (0, .ref (A 179)), (1, .int (Int32.ofInt xv))]) rfl (by decide) (List.Mem.tail _ (List.Mem.tail _ (List.Mem.head _))) (fun _ h => h) (z_goto X (t := 169) rfl rfl (WS_pq [1, 2, 0] (lv' := [(0, .ref (A 179)), (1, .int (Int32.ofInt xv)), (2, .int (Int32.ofInt (c + 1)))]) rfl ?_))
        exact ih _ xv (c + 1) Is3017 Fs3017 JFDA_s3017 ⟨by rw [show iI s3017 83 = iI t 83 by first | exact ws3017_83 | omega, show iI s3017 85 = iI t 85 by first | exact ws3017_85 | omega]; exact hq.1, by first | exact oq_1aa5be9e ws3017_82 hi.2.2.2.2.2.2 | omega, fun j hj => (aws3017_158 j).trans (hq.2.2 j hj)⟩ (by first | exact ⟨hi.1, And.intro (hi.2.1.1) (hi.2.1.2), oq_333640b7 ws3017_74 hi.2.2.1 b3002.1, oq_54f49eb5 hi.2.2.2.1, oq_f6204d84 g3015 b3014.2, oq_333640b7 ws3017_73 hi.2.2.2.2.2.1 b3001.1, oq_1aa5be9e ws3017_82 hi.2.2.2.2.2.2⟩ | omega) (by first | exact qk_me hm (by decide) (oq_ccc5e5e0 g3015 b3014.2) | exact oq_ed7b9fc5 g3015 b3014.2 hm | omega) kx
  refine z_aload_n X (x := A 179) rfl (List.Mem.head _) (z_const X rfl (s_putI X 179 rfl (c518_ok rfl) rfl rfl (by decide) rfl rfl rfl (wd_gen (fun s14 hs14 => ?_))))
  have Is14 : Bd s14 := eqB hs14 (bd_I I (show (0 : Int) ≤ 0 ∧ 0 ≤ 3 by first | exact ⟨by decide, by decide⟩ | omega) (by decide))
  have Fs14 := eqF hs14 (fm_I F (inl_ok (a := 73) rfl))
  have vs14 : iI s14 73 = 0 := eqI hs14 (iI_u (by decide))
  have ws14_74 : iI s14 74 = iI s 74 := eqI hs14 rfl
  have ws14_77 : iI s14 77 = iI s 77 := eqI hs14 rfl
  have ws14_75 : iI s14 75 = iI s 75 := eqI hs14 rfl
  have ws14_79 : iI s14 79 = iI s 79 := eqI hs14 rfl
  have ws14_78 : iI s14 78 = iI s 78 := eqI hs14 rfl
  have ws14_86 : iI s14 86 = iI s 86 := eqI hs14 rfl
  have ws14_87 : iI s14 87 = iI s 87 := eqI hs14 rfl
  have ws14_88 : iI s14 88 = iI s 88 := eqI hs14 rfl
  have ws14_81 : iI s14 81 = iI s 81 := eqI hs14 rfl
  have ws14_83 : iI s14 83 = iI s 83 := eqI hs14 rfl
  have ws14_85 : iI s14 85 = iI s 85 := eqI hs14 rfl
  have ws14_82 : iI s14 82 = iI s 82 := eqI hs14 rfl
  have aws14_158 : SAM 158 s s14 := by rw [hs14]; exact aw0_158
  have fs14 : Fm [73] [] s s14 := by rw [hs14]; exact fm_I (fm_rf _ _ _) (show 73 ∈ _ by decide)
  have JFDA_s14 : FDA B s14 := FDA_fm fs14 (by decide) jFDA
  refine z_aload_n X (x := A 179) rfl (List.Mem.head _) (z_load_n X (x := x) rfl (List.Mem.tail _ (List.Mem.head _)) (z_const X rfl (z_aload_n X (x := A 179) rfl (List.Mem.head _) (z_getI X 179 rfl (c518_ok rfl) rfl rfl ?_))))
  have b15 := bi_74 Is14
  refine z_callS X (rm := rmN 188) (As := [.int (Int32.ofInt x), .int (Int32.ofInt 0), .int (Int32.ofInt (iI s14 74))]) (st := [.ref (A 179)]) rfl rfl (by rw [E.1, E.2.1, E.2.2.1]; exact k_in2 G Is14 (by first | exact ⟨p0.1, p0.2⟩ | omega) (by first | exact ⟨by decide, by decide⟩ | omega) (by first | exact ⟨oq_fa4e5087 b15.1, oq_52af2b96 b15.2⟩ | omega)) ⟨by rw [E.2.2.2]; exact (show (rmN 188).frames + 1 ≤ (rmN 214).frames by decide), by rw [E.2.2.2]; exact (show 8 + (mNL (miB 188) + 11) + (rmN 188).locals ≤ (rmN 214).locals by decide), by rw [E.2.2.2]; exact (show 0 + (rmN 188).cells ≤ (rmN 214).cells by decide), by rw [E.2.2.2]; exact (show 0 + (rmN 188).slots ≤ (rmN 214).slots by decide)⟩ (Nat.le_of_ble_eq_true rfl) (fun vv s16 hq => ?_) (fun ee s16 hq => ?_)
  rotate_left
  · obtain ⟨rfl, e17, hv, hrs16, hps16⟩ := hq; cases hv
  obtain ⟨rfl, e17, hv, hrs16, hps16⟩ := hq
  cases hv
  show WS k 15 [(0, .ref (A 179)), (1, .int (Int32.ofInt x))] [.int (Int32.ofInt e17), .ref (A 179)] (Wd A dT s14) 0 0
  refine z_if_ne X (t := 22) rfl rfl hrs16 (fun g18 => ?_) (fun g18 => ?_)
  ·
    refine z_const X rfl (z_const X rfl (zcV_i0 X E 179 (As := [.int (Int32.ofInt 0), .int (Int32.ofInt 1)]) (st := []) rfl rfl rfl rfl (k_bad2 G Is14 (by first | exact Or.inl (by decide) | omega) (by first | exact ⟨by decide, by decide⟩ | omega)) rfl (Nat.le_of_ble_eq_true rfl) (fun s19 e20 Is19 Fs19 hrs19 hps19 => ?_)))
    have Gs19 := fm_tq Fs14 Fs19 rfl rfl
    have JFDA_s19 : FDA B s19 := FDA_fm Fs19 (by decide) JFDA_s14
    have b21 := bi_73 Is19
    have ws19_74 : iI s19 74 = iI s14 74 := fm_iq Fs19 rfl
    have ws19_77 : iI s19 77 = iI s14 77 := fm_iq Fs19 rfl
    have ws19_75 : iI s19 75 = iI s14 75 := fm_iq Fs19 rfl
    have ws19_79 : iI s19 79 = iI s14 79 := fm_iq Fs19 rfl
    have ws19_78 : iI s19 78 = iI s14 78 := fm_iq Fs19 rfl
    have ws19_86 : iI s19 86 = iI s14 86 := fm_iq Fs19 rfl
    have ws19_87 : iI s19 87 = iI s14 87 := fm_iq Fs19 rfl
    have ws19_88 : iI s19 88 = iI s14 88 := fm_iq Fs19 rfl
    have ws19_81 : iI s19 81 = iI s14 81 := fm_iq Fs19 rfl
    have ws19_83 : iI s19 83 = iI s14 83 := fm_iq Fs19 rfl
    have ws19_85 : iI s19 85 = iI s14 85 := fm_iq Fs19 rfl
    have ws19_82 : iI s19 82 = iI s14 82 := fm_iq Fs19 rfl
    have aws19_158 : SAM 158 s s19 := sam_ts aws14_158 (sam_fm Fs19 (by decide))
    refine z_if_eq X (t := 32) rfl rfl hrs19 (fun g22 => ?_) (fun g22 => ?_)
    ·
      refine z_aload_n X (x := A 179) rfl (List.Mem.head _) (z_const X rfl (s_putI X 179 rfl (c518_ok rfl) rfl rfl (by decide) rfl rfl rfl (wd_gen (fun s23 hs23 => ?_))))
      have Is23 : Bd s23 := eqB hs23 (bd_I Is19 (show (0 : Int) ≤ 0 ∧ 0 ≤ 200 by first | exact ⟨by decide, by decide⟩ | omega) (by decide))
      have Fs23 := eqF hs23 (fm_I Gs19 (inl_ok (a := 74) rfl))
      have vs23 : iI s23 74 = 0 := eqI hs23 (iI_u (by decide))
      have ws23_73 : iI s23 73 = iI s19 73 := eqI hs23 rfl
      have ws23_77 : iI s23 77 = iI s19 77 := eqI hs23 rfl
      have ws23_75 : iI s23 75 = iI s19 75 := eqI hs23 rfl
      have ws23_79 : iI s23 79 = iI s19 79 := eqI hs23 rfl
      have ws23_78 : iI s23 78 = iI s19 78 := eqI hs23 rfl
      have ws23_86 : iI s23 86 = iI s19 86 := eqI hs23 rfl
      have ws23_87 : iI s23 87 = iI s19 87 := eqI hs23 rfl
      have ws23_88 : iI s23 88 = iI s19 88 := eqI hs23 rfl
      have ws23_81 : iI s23 81 = iI s19 81 := eqI hs23 rfl
      have ws23_83 : iI s23 83 = iI s19 83 := eqI hs23 rfl
      have ws23_85 : iI s23 85 = iI s19 85 := eqI hs23 rfl
      have ws23_82 : iI s23 82 = iI s19 82 := eqI hs23 rfl
      have aws23_158 : SAM 158 s s23 := by rw [hs23]; exact aws19_158
      have fs23 : Fm [74] [] s19 s23 := by rw [hs23]; exact fm_I (fm_rf _ _ _) (show 74 ∈ _ by decide)
      have JFDA_s23 : FDA B s23 := FDA_fm fs23 (by decide) JFDA_s19
      refine z_aload_n X (x := A 179) rfl (List.Mem.head _) (z_load_n X (x := x) rfl (List.Mem.tail _ (List.Mem.head _)) (zcV_v0 X E 179 (As := [.int (Int32.ofInt x)]) (st := []) rfl rfl rfl rfl (k_beginText2 G Is23 (by first | exact ⟨oq_e6dd31ff g18 hps16, oq_eb53b30f g18 hps16 b15.2⟩ | omega)) rfl (Nat.le_of_ble_eq_true rfl) (fun s24 Is24 Fs24 hps24 => ?_)))
      have Gs24 := fm_tq Fs23 Fs24 rfl rfl
      have JFDA_s24 : FDA B s24 := FDA_fm Fs24 (by decide) JFDA_s23
      have ws24_73 : iI s24 73 = iI s23 73 := fm_iq Fs24 rfl
      have ws24_74 : iI s24 74 = iI s23 74 := fm_iq Fs24 rfl
      have b26 := bi_77 Is24
      have b27 := bi_75 Is24
      have b28 := bi_79 Is24
      have b29 := bi_78 Is24
      have ws24_86 : iI s24 86 = iI s23 86 := fm_iq Fs24 rfl
      have ws24_87 : iI s24 87 = iI s23 87 := fm_iq Fs24 rfl
      have ws24_88 : iI s24 88 = iI s23 88 := fm_iq Fs24 rfl
      have b30 := bi_81 Is24
      have ws24_83 : iI s24 83 = iI s23 83 := fm_iq Fs24 rfl
      have ws24_85 : iI s24 85 = iI s23 85 := fm_iq Fs24 rfl
      have ws24_82 : iI s24 82 = iI s23 82 := fm_iq Fs24 rfl
      have aws24_158 : SAM 158 s s24 := sam_ts aws23_158 (sam_fm Fs24 (by decide))
      refine z_aload_n X (x := A 179) rfl (List.Mem.head _) (z_const X rfl (s_putI X 179 rfl (c518_ok rfl) rfl rfl (by decide) rfl rfl rfl (wd_gen (fun s31 hs31 => ?_))))
      have Is31 : Bd s31 := eqB hs31 (bd_I Is24 (show (0 : Int) ≤ 0 ∧ 0 ≤ 8 by first | exact ⟨by decide, by decide⟩ | omega) (by decide))
      have Fs31 := eqF hs31 (fm_I Gs24 (inl_ok (a := 86) rfl))
      have vs31 : iI s31 86 = 0 := eqI hs31 (iI_u (by decide))
      have ws31_73 : iI s31 73 = iI s24 73 := eqI hs31 rfl
      have ws31_74 : iI s31 74 = iI s24 74 := eqI hs31 rfl
      have ws31_77 : iI s31 77 = iI s24 77 := eqI hs31 rfl
      have ws31_75 : iI s31 75 = iI s24 75 := eqI hs31 rfl
      have ws31_79 : iI s31 79 = iI s24 79 := eqI hs31 rfl
      have ws31_78 : iI s31 78 = iI s24 78 := eqI hs31 rfl
      have ws31_87 : iI s31 87 = iI s24 87 := eqI hs31 rfl
      have ws31_88 : iI s31 88 = iI s24 88 := eqI hs31 rfl
      have ws31_81 : iI s31 81 = iI s24 81 := eqI hs31 rfl
      have ws31_83 : iI s31 83 = iI s24 83 := eqI hs31 rfl
      have ws31_85 : iI s31 85 = iI s24 85 := eqI hs31 rfl
      have ws31_82 : iI s31 82 = iI s24 82 := eqI hs31 rfl
      have aws31_158 : SAM 158 s s31 := by rw [hs31]; exact aws24_158
      have fs31 : Fm [86] [] s24 s31 := by rw [hs31]; exact fm_I (fm_rf _ _ _) (show 86 ∈ _ by decide)
      have JFDA_s31 : FDA B s31 := FDA_fm fs31 (by decide) JFDA_s24
      refine z_aload_n X (x := A 179) rfl (List.Mem.head _) (z_const X rfl (s_putI X 179 rfl (c518_ok rfl) rfl rfl (by decide) rfl rfl rfl (wd_gen (fun s32 hs32 => ?_))))
      have Is32 : Bd s32 := eqB hs32 (bd_I Is31 (show (0 : Int) ≤ 0 ∧ 0 ≤ 8 by first | exact ⟨by decide, by decide⟩ | omega) (by decide))
      have Fs32 := eqF hs32 (fm_I Fs31 (inl_ok (a := 87) rfl))
      have vs32 : iI s32 87 = 0 := eqI hs32 (iI_u (by decide))
      have ws32_73 : iI s32 73 = iI s31 73 := eqI hs32 rfl
      have ws32_74 : iI s32 74 = iI s31 74 := eqI hs32 rfl
      have ws32_77 : iI s32 77 = iI s31 77 := eqI hs32 rfl
      have ws32_75 : iI s32 75 = iI s31 75 := eqI hs32 rfl
      have ws32_79 : iI s32 79 = iI s31 79 := eqI hs32 rfl
      have ws32_78 : iI s32 78 = iI s31 78 := eqI hs32 rfl
      have ws32_86 : iI s32 86 = iI s31 86 := eqI hs32 rfl
      have ws32_88 : iI s32 88 = iI s31 88 := eqI hs32 rfl
      have ws32_81 : iI s32 81 = iI s31 81 := eqI hs32 rfl
      have ws32_83 : iI s32 83 = iI s31 83 := eqI hs32 rfl
      have ws32_85 : iI s32 85 = iI s31 85 := eqI hs32 rfl
      have ws32_82 : iI s32 82 = iI s31 82 := eqI hs32 rfl
      have aws32_158 : SAM 158 s s32 := by rw [hs32]; exact aws31_158
      have fs32 : Fm [87] [] s31 s32 := by rw [hs32]; exact fm_I (fm_rf _ _ _) (show 87 ∈ _ by decide)
      have JFDA_s32 : FDA B s32 := FDA_fm fs32 (by decide) JFDA_s31
      refine z_aload_n X (x := A 179) rfl (List.Mem.head _) (z_const X rfl (s_putI X 179 rfl (c518_ok rfl) rfl rfl (by decide) rfl rfl rfl (wd_gen (fun s33 hs33 => ?_))))
      have Is33 : Bd s33 := eqB hs33 (bd_I Is32 (show ((-1) : Int) ≤ (-1) ∧ (-1) ≤ 200 by first | exact ⟨by decide, by decide⟩ | omega) (by decide))
      have Fs33 := eqF hs33 (fm_I Fs32 (inl_ok (a := 88) rfl))
      have vs33 : iI s33 88 = (-1) := eqI hs33 (iI_u (by decide))
      have ws33_73 : iI s33 73 = iI s32 73 := eqI hs33 rfl
      have ws33_74 : iI s33 74 = iI s32 74 := eqI hs33 rfl
      have ws33_77 : iI s33 77 = iI s32 77 := eqI hs33 rfl
      have ws33_75 : iI s33 75 = iI s32 75 := eqI hs33 rfl
      have ws33_79 : iI s33 79 = iI s32 79 := eqI hs33 rfl
      have ws33_78 : iI s33 78 = iI s32 78 := eqI hs33 rfl
      have ws33_86 : iI s33 86 = iI s32 86 := eqI hs33 rfl
      have ws33_87 : iI s33 87 = iI s32 87 := eqI hs33 rfl
      have ws33_81 : iI s33 81 = iI s32 81 := eqI hs33 rfl
      have ws33_83 : iI s33 83 = iI s32 83 := eqI hs33 rfl
      have ws33_85 : iI s33 85 = iI s32 85 := eqI hs33 rfl
      have ws33_82 : iI s33 82 = iI s32 82 := eqI hs33 rfl
      have aws33_158 : SAM 158 s s33 := by rw [hs33]; exact aws32_158
      have fs33 : Fm [88] [] s32 s33 := by rw [hs33]; exact fm_I (fm_rf _ _ _) (show 88 ∈ _ by decide)
      have JFDA_s33 : FDA B s33 := FDA_fm fs33 (by decide) JFDA_s32
      have JBs33 : FDB B x s33 := ⟨fda_n JFDA_s33 (by first | exact oq_0a89d25b ws33_81 ws32_81 ws31_81 b30.1 hps24.2.2.2.2 | (clear hps19 g18 hps16; omega) | (clear g18 hps16; omega) | omega) (by first | exact oq_732eeee6 b27.2 hps24.1 | (clear hps19 g18 hps16; omega) | (clear g18 hps16; omega) | omega), by first | exact oq_ac0e91e1 ws33_75 ws32_75 ws31_75 hps24.1 | (clear hps19 g18 hps16; omega) | (clear g18 hps16; omega) | omega, by first | exact oq_b13ada65 ws33_81 ws32_81 ws31_81 b30.1 | (clear hps19 g18 hps16; omega) | (clear g18 hps16; omega) | omega⟩
      refine z_aload_n X (x := A 179) rfl (List.Mem.head _) (zcV_v1 X E 179 (As := []) (st := []) rfl rfl rfl rfl (k_blanks2 G Is33 JBs33 (by first | exact oq_1cee15ac ws33_77 ws32_77 ws31_77 hps24.2.1 | omega)) rfl (Nat.le_of_ble_eq_true rfl) (fun s34 Is34 Fs34 JFDB_s34 hps34 => ?_))
      have hps34p := And.intro hps34.1 (hps34.2.1)
      have Gs34 := fm_tq Fs33 Fs34 rfl rfl
      have JFDA_s34 : FDA B s34 := FDA_fm Fs34 (by decide) JFDA_s33
      have JFDB_s34 : FDB B x s34 := FDB_fm Fs34 (by decide) JBs33
      have ws34_73 : iI s34 73 = iI s33 73 := fm_iq Fs34 rfl
      have ws34_74 : iI s34 74 = iI s33 74 := fm_iq Fs34 rfl
      have b36 := bi_77 Is34
      have ws34_75 : iI s34 75 = iI s33 75 := fm_iq Fs34 rfl
      have ws34_79 : iI s34 79 = iI s33 79 := fm_iq Fs34 rfl
      have ws34_78 : iI s34 78 = iI s33 78 := fm_iq Fs34 rfl
      have ws34_86 : iI s34 86 = iI s33 86 := fm_iq Fs34 rfl
      have ws34_87 : iI s34 87 = iI s33 87 := fm_iq Fs34 rfl
      have ws34_88 : iI s34 88 = iI s33 88 := fm_iq Fs34 rfl
      have ws34_81 : iI s34 81 = iI s33 81 := fm_iq Fs34 rfl
      have ws34_83 : iI s34 83 = iI s33 83 := fm_iq Fs34 rfl
      have ws34_85 : iI s34 85 = iI s33 85 := fm_iq Fs34 rfl
      have ws34_82 : iI s34 82 = iI s33 82 := fm_iq Fs34 rfl
      have aws34_158 : SAM 158 s s34 := sam_ts aws33_158 (sam_fm Fs34 (by decide))
      refine WS_pq [0, 1] (lv' := [(0, .ref (A 179)), (1, .int (Int32.ofInt x))]) rfl (L61 ((400 - iI s34 77 + (9 - iI s34 79) : Int).toNat + 1) s34 x Is34 Gs34 JFDA_s34 ⟨cho_0 (by first | exact oq_f6c784f6 ws34_79 ws33_79 ws32_79 ws31_79 b28.1 hps24.2.2.2.1 | (clear hps34 hps19 g18 hps16; omega) | (clear hps19 g18 hps16; omega) | omega) (by first | exact oq_264718cb ws34_86 ws33_86 ws32_86 vs31 | (clear hps34 hps19 g18 hps16; omega) | (clear hps19 g18 hps16; omega) | omega) (by rw [hps34.1, sk_sk, show iI s33 77 = 0 by first | exact oq_0a89d25b ws33_77 ws32_77 ws31_77 b26.1 hps24.2.1 | (clear hps34 hps19 g18 hps16; omega) | (clear hps19 g18 hps16; omega) | omega]) (by first | exact oq_627b51e0 ws34_88 vs33 | (clear hps34 hps19 g18 hps16; omega) | (clear hps19 g18 hps16; omega) | omega), by rw [hps34.1]; exact sk_sk, aws34_158⟩ (by first | exact ⟨by decide, oq_d1c86cea b27.2 b27.1 hps24.1 g18 hps16 ws14_74, oq_d9a35dd1 ws34_74 ws33_74 ws32_74 ws31_74 ws24_74 vs23, oq_b4d295d9 ws34_75 hps24.1 ws33_75 ws32_75 ws31_75, oq_d0299403 ws34_78 ws33_78 ws32_78 ws31_78 hps24.2.2.1 b29.1, by first | (clear hps34 hps19 g18 hps16; omega) | (clear hps19 g18 hps16; omega) | omega, by first | (clear hps34 hps19 g18 hps16; omega) | (clear hps19 g18 hps16; omega) | omega, oq_606f3a06 ws34_87 ws34_86 ws33_87 ws33_86 ws32_86 vs32 vs31, oq_d0299403 ws34_81 ws33_81 ws32_81 ws31_81 hps24.2.2.2.2 b30.1, oq_ee6d0677 ws34_73 ws33_73 ws32_73 ws31_73 ws24_73 ws23_73 b21.1 hps19 vs14, oq_ea4036f5 ws34_85 ws33_85 ws32_85 ws31_85 ws24_85 ws23_85 ws19_85 ws14_85, oq_ea4036f5 ws34_82 ws33_82 ws32_82 ws31_82 ws24_82 ws23_82 ws19_82 ws14_82⟩ | exact And.intro (rfl) (And.intro (And.intro (oq_2b17bf81 b27.1 hps24.1) (And.intro (oq_99273f81 g18 hps16 ws14_74) (oq_732eeee6 b27.2 hps24.1))) (And.intro (oq_d9a35dd1 ws34_74 ws33_74 ws32_74 ws31_74 ws24_74 vs23) (And.intro (oq_469c7eaf ws34_75 ws33_75 ws32_75 ws31_75 hps24.1) (And.intro (oq_f6c784f6 ws34_78 ws33_78 ws32_78 ws31_78 b29.1 hps24.2.2.1) (And.intro (oq_bdbb0bbc hps34.2.2 ws33_77 ws32_77 ws31_77 b27.2 hps24.2.1 hps24.1) (And.intro (oq_ae234e1a ws34_75 hps34.2.2 ws33_75 ws33_77 ws32_75 ws32_77 ws31_75 ws31_77 b27.1 hps24.2.1 hps24.1) (And.intro (oq_606f3a06 ws34_87 ws34_86 ws33_87 ws33_86 ws32_86 vs32 vs31) (And.intro (oq_f6c784f6 ws34_81 ws33_81 ws32_81 ws31_81 b30.1 hps24.2.2.2.2) (And.intro (oq_6c0d6f35 ws34_73 ws33_73 ws32_73 ws31_73 ws24_73 ws23_73 b21.1 hps19 vs14) (And.intro (oq_ea4036f5 ws34_85 ws33_85 ws32_85 ws31_85 ws24_85 ws23_85 ws19_85 ws14_85) (oq_ea4036f5 ws34_82 ws33_82 ws32_82 ws31_82 ws24_82 ws23_82 ws19_82 ws14_82))))))))))) | omega) (Nat.lt_succ_self _) ?_)
      intro s37  Is37 Fs37 JFDA_s37 Qs37 hs37
      have b38 := bi_73 Is37
      have b39 := bi_74 Is37
      have b40 := bi_77 Is37
      have b41 := bi_75 Is37
      have b42 := bi_79 Is37
      have b43 := bi_78 Is37
      have b44 := bi_86 Is37
      have b45 := bi_87 Is37
      have b46 := bi_88 Is37
      have b47 := bi_81 Is37
      have b48 := bi_83 Is37
      have b49 := bi_85 Is37
      have b50 := bi_82 Is37
      refine z_aload_n X (x := A 179) rfl (List.Mem.head _) (z_aload_n X (x := A 179) rfl (List.Mem.head _) (z_getI X 179 rfl (c518_ok rfl) rfl rfl ?_))
      have b51 := bi_80 Is37
      refine s_putI X 179 rfl (c518_ok rfl) rfl rfl (by decide) rfl rfl rfl (wd_gen (fun s52 hs52 => ?_))
      have Is52 : Bd s52 := eqB hs52 (bd_I Is37 (show ((-1) : Int) ≤ (iI s37 80) ∧ (iI s37 80) ≤ 400 by first | exact ⟨b51.1, b51.2⟩ | omega) (rng_to _))
      have Fs52 := eqF hs52 (fm_I Fs37 (inl_ok (a := 76) rfl))
      have vs52 : iI s52 76 = (iI s37 80) := eqI hs52 (iI_u (rng_to _))
      have ws52_73 : iI s52 73 = iI s37 73 := eqI hs52 rfl
      have ws52_74 : iI s52 74 = iI s37 74 := eqI hs52 rfl
      have ws52_77 : iI s52 77 = iI s37 77 := eqI hs52 rfl
      have ws52_75 : iI s52 75 = iI s37 75 := eqI hs52 rfl
      have ws52_79 : iI s52 79 = iI s37 79 := eqI hs52 rfl
      have ws52_78 : iI s52 78 = iI s37 78 := eqI hs52 rfl
      have ws52_86 : iI s52 86 = iI s37 86 := eqI hs52 rfl
      have ws52_87 : iI s52 87 = iI s37 87 := eqI hs52 rfl
      have ws52_88 : iI s52 88 = iI s37 88 := eqI hs52 rfl
      have ws52_81 : iI s52 81 = iI s37 81 := eqI hs52 rfl
      have ws52_83 : iI s52 83 = iI s37 83 := eqI hs52 rfl
      have ws52_85 : iI s52 85 = iI s37 85 := eqI hs52 rfl
      have ws52_82 : iI s52 82 = iI s37 82 := eqI hs52 rfl
      have aws52_158 : SAM 158 s37 s52 := by rw [hs52]; exact (sam_rf (a := 158) (s := s37))
      have fs52 : Fm [76] [] s37 s52 := by rw [hs52]; exact fm_I (fm_rf _ _ _) (show 76 ∈ _ by decide)
      have JFDA_s52 : FDA B s52 := FDA_fm fs52 (by decide) JFDA_s37
      refine z_aload_n X (x := A 179) rfl (List.Mem.head _) (z_getI X 179 rfl (c518_ok rfl) rfl rfl ?_)
      have b53 := bi_79 Is52
      refine z_if_eq X (t := 113) rfl rfl (rng_to _) (fun g54 => ?_) (fun g54 => ?_)
      ·
        refine z_const X rfl (z_store_n X (lv' := [(2, .int (Int32.ofInt 0)), (0, .ref (A 179)), (1, .int (Int32.ofInt x))]) rfl (by decide) (fun _ h => h) (WS_pq [1, 2, 0] (lv' := [(0, .ref (A 179)), (1, .int (Int32.ofInt x)), (2, .int (Int32.ofInt 0))]) rfl (L115 ((200 - 0 : Int).toNat + 1) s52 x 0 Is52 Fs52 JFDA_s52 ⟨by have z := cho_end Qs37.1 (by first | exact b44.1 | (clear hps34 hps19 g18 hps16; omega) | (clear hps19 g18 hps16; omega) | omega) (by first | exact oq_1e5eb3fc g54 ws52_79 b42.1 | (clear hps34 hps19 g18 hps16; omega) | (clear hps19 g18 hps16; omega) | omega) (by first | exact oq_051635f5 g54 ws52_79 b42.1 hs37.2.2.2.2.2.2.2.2.2.2.2.2 | (clear hps34 hps19 g18 hps16; omega) | (clear hps19 g18 hps16; omega) | omega); rw [show iI s37 86 = iI s52 86 by first | exact oq_18d11be6 ws52_86 | (clear hps34 hps19 g18 hps16; omega) | (clear hps19 g18 hps16; omega) | omega, show iI s37 88 = iI s52 88 by first | exact oq_18d11be6 ws52_88 | (clear hps34 hps19 g18 hps16; omega) | (clear hps19 g18 hps16; omega) | omega] at z; exact z, fun j hj => absurd hj (by first | exact oq_625ee044 | (clear hps34 hps19 g18 hps16; omega) | (clear hps19 g18 hps16; omega) | omega)⟩ (by first | exact ⟨by decide, And.intro (hs37.2.1.1) (hs37.2.1.2.1), oq_333640b7 ws52_74 hs37.2.2.1 b39.1, by decide, by decide, oq_e7b9ecab ws52_86 ws52_87 hs37.2.2.2.2.2.2.2.1, oq_b1fe1193 ws52_75 b41.2, oq_333640b7 ws52_73 hs37.2.2.2.2.2.2.2.2.2.1 b38.1, hs37.2.1.2.2, g54⟩ | exact And.intro (hs37.1) (And.intro (And.intro (hs37.2.1.1) (hs37.2.1.2.1)) (And.intro (oq_896be9ba ws52_74 b39.1 hs37.2.2.1) (And.intro (oq_0fe6b7e2) (And.intro (oq_b0c88ec2) (And.intro (oq_118a616f ws52_87 ws52_86 hs37.2.2.2.2.2.2.2.1) (And.intro (oq_b1fe1193 ws52_75 b41.2) (And.intro (oq_896be9ba ws52_73 b38.1 hs37.2.2.2.2.2.2.2.2.2.1) (And.intro (hs37.2.1.2.2) (g54))))))))) | omega) (Nat.lt_succ_self _) ?_)))
        intro s55 x56 Is55 Fs55 JFDA_s55 Qs55 hs55
        have b57 := bi_73 Is55
        have b58 := bi_74 Is55
        have b59 := bi_77 Is55
        have b60 := bi_75 Is55
        have b61 := bi_79 Is55
        have b62 := bi_78 Is55
        have b63 := bi_86 Is55
        have b64 := bi_87 Is55
        have b65 := bi_88 Is55
        have b66 := bi_81 Is55
        have b67 := bi_83 Is55
        have b68 := bi_85 Is55
        have b69 := bi_82 Is55
        refine z_aload_n X (x := A 179) rfl (List.Mem.head _) (z_load_n X (x := x) rfl (List.Mem.tail _ (List.Mem.head _)) (s_putI X 179 rfl (c518_ok rfl) rfl rfl (by decide) rfl rfl rfl (wd_gen (fun s70 hs70 => ?_))))
        have Is70 : Bd s70 := eqB hs70 (bd_I Is55 (show (0 : Int) ≤ x ∧ x ≤ 200 by first | exact ⟨hs55.2.1.1, hs55.2.2.2.2.2.2.2.2.1⟩ | omega) ⟨by first | exact p0.1 | omega, by first | exact p0.2 | omega⟩)
        have Fs70 := eqF hs70 (fm_I Fs55 (inl_ok (a := 82) rfl))
        have vs70 : iI s70 82 = x := eqI hs70 (iI_u ⟨by first | exact p0.1 | omega, by first | exact p0.2 | omega⟩)
        have ws70_73 : iI s70 73 = iI s55 73 := eqI hs70 rfl
        have ws70_74 : iI s70 74 = iI s55 74 := eqI hs70 rfl
        have ws70_77 : iI s70 77 = iI s55 77 := eqI hs70 rfl
        have ws70_75 : iI s70 75 = iI s55 75 := eqI hs70 rfl
        have ws70_79 : iI s70 79 = iI s55 79 := eqI hs70 rfl
        have ws70_78 : iI s70 78 = iI s55 78 := eqI hs70 rfl
        have ws70_86 : iI s70 86 = iI s55 86 := eqI hs70 rfl
        have ws70_87 : iI s70 87 = iI s55 87 := eqI hs70 rfl
        have ws70_88 : iI s70 88 = iI s55 88 := eqI hs70 rfl
        have ws70_81 : iI s70 81 = iI s55 81 := eqI hs70 rfl
        have ws70_83 : iI s70 83 = iI s55 83 := eqI hs70 rfl
        have ws70_85 : iI s70 85 = iI s55 85 := eqI hs70 rfl
        have aws70_158 : SAM 158 s55 s70 := by rw [hs70]; exact (sam_rf (a := 158) (s := s55))
        have fs70 : Fm [82] [] s55 s70 := by rw [hs70]; exact fm_I (fm_rf _ _ _) (show 82 ∈ _ by decide)
        have JFDA_s70 : FDA B s70 := FDA_fm fs70 (by decide) JFDA_s55
        refine z_aload_n X (x := A 179) rfl (List.Mem.head _) (z_aload_n X (x := A 179) rfl (List.Mem.head _) (z_getI X 179 rfl (c518_ok rfl) rfl rfl ?_))
        have b71 := bi_86 Is70
        refine s_putI X 179 rfl (c518_ok rfl) rfl rfl (by decide) rfl rfl rfl (wd_gen (fun s72 hs72 => ?_))
        have Is72 : Bd s72 := eqB hs72 (bd_I Is70 (show (0 : Int) ≤ (iI s70 86) ∧ (iI s70 86) ≤ 8 by first | exact ⟨b71.1, b71.2⟩ | omega) (rng_to _))
        have Fs72 := eqF hs72 (fm_I Fs70 (inl_ok (a := 83) rfl))
        have vs72 : iI s72 83 = (iI s70 86) := eqI hs72 (iI_u (rng_to _))
        have ws72_73 : iI s72 73 = iI s70 73 := eqI hs72 rfl
        have ws72_74 : iI s72 74 = iI s70 74 := eqI hs72 rfl
        have ws72_77 : iI s72 77 = iI s70 77 := eqI hs72 rfl
        have ws72_75 : iI s72 75 = iI s70 75 := eqI hs72 rfl
        have ws72_79 : iI s72 79 = iI s70 79 := eqI hs72 rfl
        have ws72_78 : iI s72 78 = iI s70 78 := eqI hs72 rfl
        have ws72_86 : iI s72 86 = iI s70 86 := eqI hs72 rfl
        have ws72_87 : iI s72 87 = iI s70 87 := eqI hs72 rfl
        have ws72_88 : iI s72 88 = iI s70 88 := eqI hs72 rfl
        have ws72_81 : iI s72 81 = iI s70 81 := eqI hs72 rfl
        have ws72_85 : iI s72 85 = iI s70 85 := eqI hs72 rfl
        have ws72_82 : iI s72 82 = iI s70 82 := eqI hs72 rfl
        have aws72_158 : SAM 158 s55 s72 := by rw [hs72]; exact aws70_158
        have fs72 : Fm [83] [] s70 s72 := by rw [hs72]; exact fm_I (fm_rf _ _ _) (show 83 ∈ _ by decide)
        have JFDA_s72 : FDA B s72 := FDA_fm fs72 (by decide) JFDA_s70
        refine z_aload_n X (x := A 179) rfl (List.Mem.head _) (z_aload_n X (x := A 179) rfl (List.Mem.head _) (z_getI X 179 rfl (c518_ok rfl) rfl rfl ?_))
        have b73 := bi_87 Is72
        refine s_putI X 179 rfl (c518_ok rfl) rfl rfl (by decide) rfl rfl rfl (wd_gen (fun s74 hs74 => ?_))
        have Is74 : Bd s74 := eqB hs74 (bd_I Is72 (show (0 : Int) ≤ (iI s72 87) ∧ (iI s72 87) ≤ 8 by first | exact ⟨b73.1, b73.2⟩ | omega) (rng_to _))
        have Fs74 := eqF hs74 (fm_I Fs72 (inl_ok (a := 84) rfl))
        have vs74 : iI s74 84 = (iI s72 87) := eqI hs74 (iI_u (rng_to _))
        have ws74_73 : iI s74 73 = iI s72 73 := eqI hs74 rfl
        have ws74_74 : iI s74 74 = iI s72 74 := eqI hs74 rfl
        have ws74_77 : iI s74 77 = iI s72 77 := eqI hs74 rfl
        have ws74_75 : iI s74 75 = iI s72 75 := eqI hs74 rfl
        have ws74_79 : iI s74 79 = iI s72 79 := eqI hs74 rfl
        have ws74_78 : iI s74 78 = iI s72 78 := eqI hs74 rfl
        have ws74_86 : iI s74 86 = iI s72 86 := eqI hs74 rfl
        have ws74_87 : iI s74 87 = iI s72 87 := eqI hs74 rfl
        have ws74_88 : iI s74 88 = iI s72 88 := eqI hs74 rfl
        have ws74_81 : iI s74 81 = iI s72 81 := eqI hs74 rfl
        have ws74_83 : iI s74 83 = iI s72 83 := eqI hs74 rfl
        have ws74_85 : iI s74 85 = iI s72 85 := eqI hs74 rfl
        have ws74_82 : iI s74 82 = iI s72 82 := eqI hs74 rfl
        have aws74_158 : SAM 158 s55 s74 := by rw [hs74]; exact aws72_158
        have fs74 : Fm [84] [] s72 s74 := by rw [hs74]; exact fm_I (fm_rf _ _ _) (show 84 ∈ _ by decide)
        have JFDA_s74 : FDA B s74 := FDA_fm fs74 (by decide) JFDA_s72
        refine z_aload_n X (x := A 179) rfl (List.Mem.head _) (z_aload_n X (x := A 179) rfl (List.Mem.head _) (z_getI X 179 rfl (c518_ok rfl) rfl rfl ?_))
        have b75 := bi_88 Is74
        refine s_putI X 179 rfl (c518_ok rfl) rfl rfl (by decide) rfl rfl rfl (wd_gen (fun s76 hs76 => ?_))
        have Is76 : Bd s76 := eqB hs76 (bd_I Is74 (show ((-1) : Int) ≤ (iI s74 88) ∧ (iI s74 88) ≤ 200 by first | exact ⟨b75.1, b75.2⟩ | omega) (rng_to _))
        have Fs76 := eqF hs76 (fm_I Fs74 (inl_ok (a := 85) rfl))
        have vs76 : iI s76 85 = (iI s74 88) := eqI hs76 (iI_u (rng_to _))
        have ws76_73 : iI s76 73 = iI s74 73 := eqI hs76 rfl
        have ws76_74 : iI s76 74 = iI s74 74 := eqI hs76 rfl
        have ws76_77 : iI s76 77 = iI s74 77 := eqI hs76 rfl
        have ws76_75 : iI s76 75 = iI s74 75 := eqI hs76 rfl
        have ws76_79 : iI s76 79 = iI s74 79 := eqI hs76 rfl
        have ws76_78 : iI s76 78 = iI s74 78 := eqI hs76 rfl
        have ws76_86 : iI s76 86 = iI s74 86 := eqI hs76 rfl
        have ws76_87 : iI s76 87 = iI s74 87 := eqI hs76 rfl
        have ws76_88 : iI s76 88 = iI s74 88 := eqI hs76 rfl
        have ws76_81 : iI s76 81 = iI s74 81 := eqI hs76 rfl
        have ws76_83 : iI s76 83 = iI s74 83 := eqI hs76 rfl
        have ws76_82 : iI s76 82 = iI s74 82 := eqI hs76 rfl
        have aws76_158 : SAM 158 s55 s76 := by rw [hs76]; exact aws74_158
        have fs76 : Fm [85] [] s74 s76 := by rw [hs76]; exact fm_I (fm_rf _ _ _) (show 85 ∈ _ by decide)
        have JFDA_s76 : FDA B s76 := FDA_fm fs76 (by decide) JFDA_s74
        refine z_const X rfl (z_store_n X (lv' := [(2, .int (Int32.ofInt 0)), (0, .ref (A 179)), (1, .int (Int32.ofInt x))]) rfl (by decide) (fun _ h => h) (WS_pq [1, 2, 0] (lv' := [(0, .ref (A 179)), (1, .int (Int32.ofInt x)), (2, .int (Int32.ofInt 0))]) rfl (L169 ((8 - 0 : Int).toNat + 1) s76 x 0 Is76 Fs76 JFDA_s76 ⟨by rw [show iI s76 83 = iI s55 86 by first | exact oq_ac0e91e1 ws76_83 ws74_83 vs72 ws70_86 | (clear hps34 hps19 g18 hps16; omega) | (clear hps19 g18 hps16; omega) | omega, show iI s76 85 = iI s55 88 by first | exact oq_ac0e91e1 vs76 ws74_88 ws72_88 ws70_88 | (clear hps34 hps19 g18 hps16; omega) | (clear hps19 g18 hps16; omega) | omega]; exact Qs55.1, by first | exact oq_ac0e91e1 ws76_82 ws74_82 ws72_82 vs70 | (clear hps34 hps19 g18 hps16; omega) | (clear hps19 g18 hps16; omega) | omega, fun j hj => (aws76_158 j).trans (Qs55.2 j (by first | exact oq_c51ca0d4 hj hs55.2.2.2.2.2.2.2.2.2.2 | (clear hps34 hps19 g18 hps16; omega) | (clear hps19 g18 hps16; omega) | omega))⟩ (by first | exact ⟨by decide, And.intro (hs55.2.1.1) (hs55.2.1.2), oq_d0299403 ws76_74 ws74_74 ws72_74 ws70_74 hs55.2.2.1 b58.1, by decide, by decide, oq_d0299403 ws76_73 ws74_73 ws72_73 ws70_73 hs55.2.2.2.2.2.2.2.1 b57.1, oq_ac0e91e1 ws76_82 ws74_82 ws72_82 vs70⟩ | exact And.intro (hs55.1) (And.intro (And.intro (hs55.2.1.1) (hs55.2.1.2)) (And.intro (oq_f6c784f6 ws76_74 ws74_74 ws72_74 ws70_74 b58.1 hs55.2.2.1) (And.intro (oq_0fe6b7e2) (And.intro (oq_1ed47a9a) (And.intro (oq_f6c784f6 ws76_73 ws74_73 ws72_73 ws70_73 b57.1 hs55.2.2.2.2.2.2.2.1) (oq_ac0e91e1 ws76_82 ws74_82 ws72_82 vs70)))))) | omega) (Nat.lt_succ_self _) ?_)))
        intro s77 x78 Is77 Fs77 JFDA_s77 Qs77 hs77
        have b79 := bi_73 Is77
        have b80 := bi_74 Is77
        have b81 := bi_77 Is77
        have b82 := bi_75 Is77
        have b83 := bi_79 Is77
        have b84 := bi_78 Is77
        have b85 := bi_86 Is77
        have b86 := bi_87 Is77
        have b87 := bi_88 Is77
        have b88 := bi_81 Is77
        have b89 := bi_83 Is77
        have b90 := bi_85 Is77
        have b91 := bi_82 Is77
        refine z_aload_n X (x := A 179) rfl (List.Mem.head _) (z_getI X 179 rfl (c518_ok rfl) rfl rfl ?_)
        have b92 := bi_83 Is77
        exact w_iret X.1 q hRt rfl (ax_d X (show cdA 214 199 = some (.ireturn, 1, 0, 0, 0) from rfl)) (Nat.zero_le _) (Nat.zero_le _) ⟨_, rfl, Is77, Fs77, JFDA_s77, (iI s77 83), rfl, (rng_to _), Or.inl ⟨by first | exact hs77.2.1.1 | omega, by first | exact hs77.2.1.2 | omega, by first | exact hs77.2.2.1 | omega, by first | exact hs77.2.2.2.2.2.1 | omega, Or.inl ⟨by first | exact b92.1 | omega, by have h := Qs77; rw [show iI s77 83 = (iI s77 83) by first | exact rfl | (clear hps34 hps19 g18 hps16; omega) | (clear hps19 g18 hps16; omega) | omega] at h; obtain ⟨⟨k, c, h1⟩, h2, h3⟩ := h; exact ⟨k, c, h1, h2, h3⟩⟩⟩⟩
      ·
        refine z_aload_n X (x := A 179) rfl (List.Mem.head _) (z_getI X 179 rfl (c518_ok rfl) rfl rfl ?_)
        have b93 := bi_79 Is52
        refine z_bipush X rfl (z_sub X rfl ?_)
        exact w_iret X.1 q hRt rfl (ax_d X (show cdA 214 112 = some (.ireturn, 1, 0, 0, 0) from rfl)) (Nat.zero_le _) (Nat.zero_le _) ⟨_, rfl, Is52, Fs52, JFDA_s52, ((iI s52 79) - 10), rfl, ⟨by first | exact oq_d3c9ade5 b93.1 | omega, by first | exact oq_71609f9f b93.2 | omega⟩, Or.inl ⟨by first | exact hs37.2.1.1 | omega, by first | exact hs37.2.1.2.1 | omega, by first | exact oq_333640b7 ws52_74 hs37.2.2.1 b39.1 | omega, by first | exact oq_333640b7 ws52_73 hs37.2.2.2.2.2.2.2.2.2.1 b38.1 | omega, Or.inr ⟨by first | exact oq_a634ad6e b93.2 | omega, cho_bad Qs37.1 ⟨by first | exact oq_970d7846 b93.1 g54 ws52_79 | (clear g54 hps34 hps19 g18 hps16; omega) | (clear hps34 hps19 g18 hps16; omega) | omega, by first | exact oq_aa527afa ws52_79 | (clear g54 hps34 hps19 g18 hps16; omega) | (clear hps34 hps19 g18 hps16; omega) | omega⟩, by first | exact oq_1aa5be9e ws52_85 hs37.2.2.2.2.2.2.2.2.2.2.1 | omega, by first | exact oq_1aa5be9e ws52_82 hs37.2.2.2.2.2.2.2.2.2.2.2.1 | omega, sam_ts Qs37.2.2 aws52_158⟩⟩⟩
    ·
      refine z_const X rfl ?_
      exact w_iret X.1 q hRt rfl (ax_d X (show cdA 214 31 = some (.ireturn, 1, 0, 0, 0) from rfl)) (Nat.zero_le _) (Nat.zero_le _) ⟨_, rfl, Is19, Gs19, JFDA_s19, 0, rfl, (by decide), Or.inr ⟨by first | exact oq_01116dcd g22 hps19 vs14 | exact Or.inl (oq_22c60b3d g22 hps19 vs14) | omega, by first | exact oq_1aa5be9e ws19_74 ws14_74 | omega, by first | exact oq_df0d149a g22 hps19 vs14 | exact oq_d8ebe12c g22 hps19 vs14 | omega, by first | exact oq_1aa5be9e ws19_85 ws14_85 | omega, by first | exact oq_1aa5be9e ws19_82 ws14_82 | omega, aws19_158⟩⟩
  ·
    refine z_const X rfl (z_goto X (t := 23) rfl rfl (z_const X rfl (zcV_i0 X E 179 (As := [.int (Int32.ofInt 1), .int (Int32.ofInt 1)]) (st := []) rfl rfl rfl rfl (k_bad2 G Is14 (by first | exact Or.inr (by decide) | omega) (by first | exact ⟨by decide, by decide⟩ | omega)) rfl (Nat.le_of_ble_eq_true rfl) (fun s94 e95 Is94 Fs94 hrs94 hps94 => ?_))))
    have Gs94 := fm_tq Fs14 Fs94 rfl rfl
    have JFDA_s94 : FDA B s94 := FDA_fm Fs94 (by decide) JFDA_s14
    have b96 := bi_73 Is94
    have ws94_74 : iI s94 74 = iI s14 74 := fm_iq Fs94 rfl
    have ws94_77 : iI s94 77 = iI s14 77 := fm_iq Fs94 rfl
    have ws94_75 : iI s94 75 = iI s14 75 := fm_iq Fs94 rfl
    have ws94_79 : iI s94 79 = iI s14 79 := fm_iq Fs94 rfl
    have ws94_78 : iI s94 78 = iI s14 78 := fm_iq Fs94 rfl
    have ws94_86 : iI s94 86 = iI s14 86 := fm_iq Fs94 rfl
    have ws94_87 : iI s94 87 = iI s14 87 := fm_iq Fs94 rfl
    have ws94_88 : iI s94 88 = iI s14 88 := fm_iq Fs94 rfl
    have ws94_81 : iI s94 81 = iI s14 81 := fm_iq Fs94 rfl
    have ws94_83 : iI s94 83 = iI s14 83 := fm_iq Fs94 rfl
    have ws94_85 : iI s94 85 = iI s14 85 := fm_iq Fs94 rfl
    have ws94_82 : iI s94 82 = iI s14 82 := fm_iq Fs94 rfl
    have aws94_158 : SAM 158 s s94 := sam_ts aws14_158 (sam_fm Fs94 (by decide))
    refine z_if_eq X (t := 32) rfl rfl hrs94 (fun g97 => ?_) (fun g97 => ?_)
    ·
      refine z_aload_n X (x := A 179) rfl (List.Mem.head _) (z_const X rfl (s_putI X 179 rfl (c518_ok rfl) rfl rfl (by decide) rfl rfl rfl (wd_gen (fun s98 hs98 => ?_))))
      have Is98 : Bd s98 := eqB hs98 (bd_I Is94 (show (0 : Int) ≤ 0 ∧ 0 ≤ 200 by first | exact ⟨by decide, by decide⟩ | omega) (by decide))
      have Fs98 := eqF hs98 (fm_I Gs94 (inl_ok (a := 74) rfl))
      have vs98 : iI s98 74 = 0 := eqI hs98 (iI_u (by decide))
      have ws98_73 : iI s98 73 = iI s94 73 := eqI hs98 rfl
      have ws98_77 : iI s98 77 = iI s94 77 := eqI hs98 rfl
      have ws98_75 : iI s98 75 = iI s94 75 := eqI hs98 rfl
      have ws98_79 : iI s98 79 = iI s94 79 := eqI hs98 rfl
      have ws98_78 : iI s98 78 = iI s94 78 := eqI hs98 rfl
      have ws98_86 : iI s98 86 = iI s94 86 := eqI hs98 rfl
      have ws98_87 : iI s98 87 = iI s94 87 := eqI hs98 rfl
      have ws98_88 : iI s98 88 = iI s94 88 := eqI hs98 rfl
      have ws98_81 : iI s98 81 = iI s94 81 := eqI hs98 rfl
      have ws98_83 : iI s98 83 = iI s94 83 := eqI hs98 rfl
      have ws98_85 : iI s98 85 = iI s94 85 := eqI hs98 rfl
      have ws98_82 : iI s98 82 = iI s94 82 := eqI hs98 rfl
      have aws98_158 : SAM 158 s s98 := by rw [hs98]; exact aws94_158
      have fs98 : Fm [74] [] s94 s98 := by rw [hs98]; exact fm_I (fm_rf _ _ _) (show 74 ∈ _ by decide)
      have JFDA_s98 : FDA B s98 := FDA_fm fs98 (by decide) JFDA_s94
      refine z_aload_n X (x := A 179) rfl (List.Mem.head _) (z_load_n X (x := x) rfl (List.Mem.tail _ (List.Mem.head _)) (zcV_v0 X E 179 (As := [.int (Int32.ofInt x)]) (st := []) rfl rfl rfl rfl (k_beginText2 G Is98 (by first | exact ⟨oq_674898f9 g97 hps94 vs14, oq_fd1fe449 g97 hps94 vs14⟩ | exact And.intro (oq_3fe98d9b g97 hps94 vs14) (oq_cf5a735f g97 hps94 vs14) | omega)) rfl (Nat.le_of_ble_eq_true rfl) (fun s99 Is99 Fs99 hps99 => ?_)))
      have Gs99 := fm_tq Fs98 Fs99 rfl rfl
      have JFDA_s99 : FDA B s99 := FDA_fm Fs99 (by decide) JFDA_s98
      have ws99_73 : iI s99 73 = iI s98 73 := fm_iq Fs99 rfl
      have ws99_74 : iI s99 74 = iI s98 74 := fm_iq Fs99 rfl
      have b101 := bi_77 Is99
      have b102 := bi_75 Is99
      have b103 := bi_79 Is99
      have b104 := bi_78 Is99
      have ws99_86 : iI s99 86 = iI s98 86 := fm_iq Fs99 rfl
      have ws99_87 : iI s99 87 = iI s98 87 := fm_iq Fs99 rfl
      have ws99_88 : iI s99 88 = iI s98 88 := fm_iq Fs99 rfl
      have b105 := bi_81 Is99
      have ws99_83 : iI s99 83 = iI s98 83 := fm_iq Fs99 rfl
      have ws99_85 : iI s99 85 = iI s98 85 := fm_iq Fs99 rfl
      have ws99_82 : iI s99 82 = iI s98 82 := fm_iq Fs99 rfl
      have aws99_158 : SAM 158 s s99 := sam_ts aws98_158 (sam_fm Fs99 (by decide))
      refine z_aload_n X (x := A 179) rfl (List.Mem.head _) (z_const X rfl (s_putI X 179 rfl (c518_ok rfl) rfl rfl (by decide) rfl rfl rfl (wd_gen (fun s106 hs106 => ?_))))
      have Is106 : Bd s106 := eqB hs106 (bd_I Is99 (show (0 : Int) ≤ 0 ∧ 0 ≤ 8 by first | exact ⟨by decide, by decide⟩ | omega) (by decide))
      have Fs106 := eqF hs106 (fm_I Gs99 (inl_ok (a := 86) rfl))
      have vs106 : iI s106 86 = 0 := eqI hs106 (iI_u (by decide))
      have ws106_73 : iI s106 73 = iI s99 73 := eqI hs106 rfl
      have ws106_74 : iI s106 74 = iI s99 74 := eqI hs106 rfl
      have ws106_77 : iI s106 77 = iI s99 77 := eqI hs106 rfl
      have ws106_75 : iI s106 75 = iI s99 75 := eqI hs106 rfl
      have ws106_79 : iI s106 79 = iI s99 79 := eqI hs106 rfl
      have ws106_78 : iI s106 78 = iI s99 78 := eqI hs106 rfl
      have ws106_87 : iI s106 87 = iI s99 87 := eqI hs106 rfl
      have ws106_88 : iI s106 88 = iI s99 88 := eqI hs106 rfl
      have ws106_81 : iI s106 81 = iI s99 81 := eqI hs106 rfl
      have ws106_83 : iI s106 83 = iI s99 83 := eqI hs106 rfl
      have ws106_85 : iI s106 85 = iI s99 85 := eqI hs106 rfl
      have ws106_82 : iI s106 82 = iI s99 82 := eqI hs106 rfl
      have aws106_158 : SAM 158 s s106 := by rw [hs106]; exact aws99_158
      have fs106 : Fm [86] [] s99 s106 := by rw [hs106]; exact fm_I (fm_rf _ _ _) (show 86 ∈ _ by decide)
      have JFDA_s106 : FDA B s106 := FDA_fm fs106 (by decide) JFDA_s99
      refine z_aload_n X (x := A 179) rfl (List.Mem.head _) (z_const X rfl (s_putI X 179 rfl (c518_ok rfl) rfl rfl (by decide) rfl rfl rfl (wd_gen (fun s107 hs107 => ?_))))
      have Is107 : Bd s107 := eqB hs107 (bd_I Is106 (show (0 : Int) ≤ 0 ∧ 0 ≤ 8 by first | exact ⟨by decide, by decide⟩ | omega) (by decide))
      have Fs107 := eqF hs107 (fm_I Fs106 (inl_ok (a := 87) rfl))
      have vs107 : iI s107 87 = 0 := eqI hs107 (iI_u (by decide))
      have ws107_73 : iI s107 73 = iI s106 73 := eqI hs107 rfl
      have ws107_74 : iI s107 74 = iI s106 74 := eqI hs107 rfl
      have ws107_77 : iI s107 77 = iI s106 77 := eqI hs107 rfl
      have ws107_75 : iI s107 75 = iI s106 75 := eqI hs107 rfl
      have ws107_79 : iI s107 79 = iI s106 79 := eqI hs107 rfl
      have ws107_78 : iI s107 78 = iI s106 78 := eqI hs107 rfl
      have ws107_86 : iI s107 86 = iI s106 86 := eqI hs107 rfl
      have ws107_88 : iI s107 88 = iI s106 88 := eqI hs107 rfl
      have ws107_81 : iI s107 81 = iI s106 81 := eqI hs107 rfl
      have ws107_83 : iI s107 83 = iI s106 83 := eqI hs107 rfl
      have ws107_85 : iI s107 85 = iI s106 85 := eqI hs107 rfl
      have ws107_82 : iI s107 82 = iI s106 82 := eqI hs107 rfl
      have aws107_158 : SAM 158 s s107 := by rw [hs107]; exact aws106_158
      have fs107 : Fm [87] [] s106 s107 := by rw [hs107]; exact fm_I (fm_rf _ _ _) (show 87 ∈ _ by decide)
      have JFDA_s107 : FDA B s107 := FDA_fm fs107 (by decide) JFDA_s106
      refine z_aload_n X (x := A 179) rfl (List.Mem.head _) (z_const X rfl (s_putI X 179 rfl (c518_ok rfl) rfl rfl (by decide) rfl rfl rfl (wd_gen (fun s108 hs108 => ?_))))
      have Is108 : Bd s108 := eqB hs108 (bd_I Is107 (show ((-1) : Int) ≤ (-1) ∧ (-1) ≤ 200 by first | exact ⟨by decide, by decide⟩ | omega) (by decide))
      have Fs108 := eqF hs108 (fm_I Fs107 (inl_ok (a := 88) rfl))
      have vs108 : iI s108 88 = (-1) := eqI hs108 (iI_u (by decide))
      have ws108_73 : iI s108 73 = iI s107 73 := eqI hs108 rfl
      have ws108_74 : iI s108 74 = iI s107 74 := eqI hs108 rfl
      have ws108_77 : iI s108 77 = iI s107 77 := eqI hs108 rfl
      have ws108_75 : iI s108 75 = iI s107 75 := eqI hs108 rfl
      have ws108_79 : iI s108 79 = iI s107 79 := eqI hs108 rfl
      have ws108_78 : iI s108 78 = iI s107 78 := eqI hs108 rfl
      have ws108_86 : iI s108 86 = iI s107 86 := eqI hs108 rfl
      have ws108_87 : iI s108 87 = iI s107 87 := eqI hs108 rfl
      have ws108_81 : iI s108 81 = iI s107 81 := eqI hs108 rfl
      have ws108_83 : iI s108 83 = iI s107 83 := eqI hs108 rfl
      have ws108_85 : iI s108 85 = iI s107 85 := eqI hs108 rfl
      have ws108_82 : iI s108 82 = iI s107 82 := eqI hs108 rfl
      have aws108_158 : SAM 158 s s108 := by rw [hs108]; exact aws107_158
      have fs108 : Fm [88] [] s107 s108 := by rw [hs108]; exact fm_I (fm_rf _ _ _) (show 88 ∈ _ by decide)
      have JFDA_s108 : FDA B s108 := FDA_fm fs108 (by decide) JFDA_s107
      have JBs108 : FDB B x s108 := ⟨fda_n JFDA_s108 (by first | exact oq_0a89d25b ws108_81 ws107_81 ws106_81 b105.1 hps99.2.2.2.2 | (clear hps94 hps16; omega) | (clear hps16; omega) | omega) (by first | exact oq_732eeee6 b102.2 hps99.1 | (clear hps94 hps16; omega) | (clear hps16; omega) | omega), by first | exact oq_ac0e91e1 ws108_75 ws107_75 ws106_75 hps99.1 | (clear hps94 hps16; omega) | (clear hps16; omega) | omega, by first | exact oq_b13ada65 ws108_81 ws107_81 ws106_81 b105.1 | (clear hps94 hps16; omega) | (clear hps16; omega) | omega⟩
      refine z_aload_n X (x := A 179) rfl (List.Mem.head _) (zcV_v1 X E 179 (As := []) (st := []) rfl rfl rfl rfl (k_blanks2 G Is108 JBs108 (by first | exact oq_1cee15ac ws108_77 ws107_77 ws106_77 hps99.2.1 | omega)) rfl (Nat.le_of_ble_eq_true rfl) (fun s109 Is109 Fs109 JFDB_s109 hps109 => ?_))
      have hps109p := And.intro hps109.1 (hps109.2.1)
      have Gs109 := fm_tq Fs108 Fs109 rfl rfl
      have JFDA_s109 : FDA B s109 := FDA_fm Fs109 (by decide) JFDA_s108
      have JFDB_s109 : FDB B x s109 := FDB_fm Fs109 (by decide) JBs108
      have ws109_73 : iI s109 73 = iI s108 73 := fm_iq Fs109 rfl
      have ws109_74 : iI s109 74 = iI s108 74 := fm_iq Fs109 rfl
      have b111 := bi_77 Is109
      have ws109_75 : iI s109 75 = iI s108 75 := fm_iq Fs109 rfl
      have ws109_79 : iI s109 79 = iI s108 79 := fm_iq Fs109 rfl
      have ws109_78 : iI s109 78 = iI s108 78 := fm_iq Fs109 rfl
      have ws109_86 : iI s109 86 = iI s108 86 := fm_iq Fs109 rfl
      have ws109_87 : iI s109 87 = iI s108 87 := fm_iq Fs109 rfl
      have ws109_88 : iI s109 88 = iI s108 88 := fm_iq Fs109 rfl
      have ws109_81 : iI s109 81 = iI s108 81 := fm_iq Fs109 rfl
      have ws109_83 : iI s109 83 = iI s108 83 := fm_iq Fs109 rfl
      have ws109_85 : iI s109 85 = iI s108 85 := fm_iq Fs109 rfl
      have ws109_82 : iI s109 82 = iI s108 82 := fm_iq Fs109 rfl
      have aws109_158 : SAM 158 s s109 := sam_ts aws108_158 (sam_fm Fs109 (by decide))
      refine WS_pq [0, 1] (lv' := [(0, .ref (A 179)), (1, .int (Int32.ofInt x))]) rfl (L61 ((400 - iI s109 77 + (9 - iI s109 79) : Int).toNat + 1) s109 x Is109 Gs109 JFDA_s109 ⟨cho_0 (by first | exact oq_f6c784f6 ws109_79 ws108_79 ws107_79 ws106_79 b103.1 hps99.2.2.2.1 | (clear hps109 hps94 hps16; omega) | (clear hps94 hps16; omega) | omega) (by first | exact oq_264718cb ws109_86 ws108_86 ws107_86 vs106 | (clear hps109 hps94 hps16; omega) | (clear hps94 hps16; omega) | omega) (by rw [hps109.1, sk_sk, show iI s108 77 = 0 by first | exact oq_0a89d25b ws108_77 ws107_77 ws106_77 b101.1 hps99.2.1 | (clear hps109 hps94 hps16; omega) | (clear hps94 hps16; omega) | omega]) (by first | exact oq_627b51e0 ws109_88 vs108 | (clear hps109 hps94 hps16; omega) | (clear hps94 hps16; omega) | omega), by rw [hps109.1]; exact sk_sk, aws109_158⟩ (by first | exact ⟨by decide, oq_607845ef g97 hps94 vs14, oq_d9a35dd1 ws109_74 ws108_74 ws107_74 ws106_74 ws99_74 vs98, oq_b4d295d9 ws109_75 hps99.1 ws108_75 ws107_75 ws106_75, oq_d0299403 ws109_78 ws108_78 ws107_78 ws106_78 hps99.2.2.1 b104.1, oq_1f30bbcd g97 hps94 vs14, oq_bd3ae47d g97 hps94 vs14, oq_606f3a06 ws109_87 ws109_86 ws108_87 ws108_86 ws107_86 vs107 vs106, oq_d0299403 ws109_81 ws108_81 ws107_81 ws106_81 hps99.2.2.2.2 b105.1, oq_12537a21 ws109_73 ws108_73 ws107_73 ws106_73 ws99_73 ws98_73 g97 b96.1 hps94 vs14, oq_ea4036f5 ws109_85 ws108_85 ws107_85 ws106_85 ws99_85 ws98_85 ws94_85 ws14_85, oq_ea4036f5 ws109_82 ws108_82 ws107_82 ws106_82 ws99_82 ws98_82 ws94_82 ws14_82⟩ | exact And.intro (rfl) (And.intro (And.intro (oq_2b17bf81 b102.1 hps99.1) (And.intro (oq_262cead8 g97 hps94 vs14) (oq_732eeee6 b102.2 hps99.1))) (And.intro (oq_d9a35dd1 ws109_74 ws108_74 ws107_74 ws106_74 ws99_74 vs98) (And.intro (oq_469c7eaf ws109_75 ws108_75 ws107_75 ws106_75 hps99.1) (And.intro (oq_f6c784f6 ws109_78 ws108_78 ws107_78 ws106_78 b104.1 hps99.2.2.1) (And.intro (oq_bdbb0bbc hps109.2.2 ws108_77 ws107_77 ws106_77 b102.2 hps99.2.1 hps99.1) (And.intro (oq_ae234e1a ws109_75 hps109.2.2 ws108_75 ws108_77 ws107_75 ws107_77 ws106_75 ws106_77 b102.1 hps99.2.1 hps99.1) (And.intro (oq_606f3a06 ws109_87 ws109_86 ws108_87 ws108_86 ws107_86 vs107 vs106) (And.intro (oq_f6c784f6 ws109_81 ws108_81 ws107_81 ws106_81 b105.1 hps99.2.2.2.2) (And.intro (oq_c0d1f3ee ws109_73 ws108_73 ws107_73 ws106_73 ws99_73 ws98_73 g97 b96.1 hps94 vs14) (And.intro (oq_ea4036f5 ws109_85 ws108_85 ws107_85 ws106_85 ws99_85 ws98_85 ws94_85 ws14_85) (oq_ea4036f5 ws109_82 ws108_82 ws107_82 ws106_82 ws99_82 ws98_82 ws94_82 ws14_82))))))))))) | omega) (Nat.lt_succ_self _) ?_)
      intro s112  Is112 Fs112 JFDA_s112 Qs112 hs112
      have b113 := bi_73 Is112
      have b114 := bi_74 Is112
      have b115 := bi_77 Is112
      have b116 := bi_75 Is112
      have b117 := bi_79 Is112
      have b118 := bi_78 Is112
      have b119 := bi_86 Is112
      have b120 := bi_87 Is112
      have b121 := bi_88 Is112
      have b122 := bi_81 Is112
      have b123 := bi_83 Is112
      have b124 := bi_85 Is112
      have b125 := bi_82 Is112
      refine z_aload_n X (x := A 179) rfl (List.Mem.head _) (z_aload_n X (x := A 179) rfl (List.Mem.head _) (z_getI X 179 rfl (c518_ok rfl) rfl rfl ?_))
      have b126 := bi_80 Is112
      refine s_putI X 179 rfl (c518_ok rfl) rfl rfl (by decide) rfl rfl rfl (wd_gen (fun s127 hs127 => ?_))
      have Is127 : Bd s127 := eqB hs127 (bd_I Is112 (show ((-1) : Int) ≤ (iI s112 80) ∧ (iI s112 80) ≤ 400 by first | exact ⟨b126.1, b126.2⟩ | omega) (rng_to _))
      have Fs127 := eqF hs127 (fm_I Fs112 (inl_ok (a := 76) rfl))
      have vs127 : iI s127 76 = (iI s112 80) := eqI hs127 (iI_u (rng_to _))
      have ws127_73 : iI s127 73 = iI s112 73 := eqI hs127 rfl
      have ws127_74 : iI s127 74 = iI s112 74 := eqI hs127 rfl
      have ws127_77 : iI s127 77 = iI s112 77 := eqI hs127 rfl
      have ws127_75 : iI s127 75 = iI s112 75 := eqI hs127 rfl
      have ws127_79 : iI s127 79 = iI s112 79 := eqI hs127 rfl
      have ws127_78 : iI s127 78 = iI s112 78 := eqI hs127 rfl
      have ws127_86 : iI s127 86 = iI s112 86 := eqI hs127 rfl
      have ws127_87 : iI s127 87 = iI s112 87 := eqI hs127 rfl
      have ws127_88 : iI s127 88 = iI s112 88 := eqI hs127 rfl
      have ws127_81 : iI s127 81 = iI s112 81 := eqI hs127 rfl
      have ws127_83 : iI s127 83 = iI s112 83 := eqI hs127 rfl
      have ws127_85 : iI s127 85 = iI s112 85 := eqI hs127 rfl
      have ws127_82 : iI s127 82 = iI s112 82 := eqI hs127 rfl
      have aws127_158 : SAM 158 s112 s127 := by rw [hs127]; exact (sam_rf (a := 158) (s := s112))
      have fs127 : Fm [76] [] s112 s127 := by rw [hs127]; exact fm_I (fm_rf _ _ _) (show 76 ∈ _ by decide)
      have JFDA_s127 : FDA B s127 := FDA_fm fs127 (by decide) JFDA_s112
      refine z_aload_n X (x := A 179) rfl (List.Mem.head _) (z_getI X 179 rfl (c518_ok rfl) rfl rfl ?_)
      have b128 := bi_79 Is127
      refine z_if_eq X (t := 113) rfl rfl (rng_to _) (fun g129 => ?_) (fun g129 => ?_)
      ·
        refine z_const X rfl (z_store_n X (lv' := [(2, .int (Int32.ofInt 0)), (0, .ref (A 179)), (1, .int (Int32.ofInt x))]) rfl (by decide) (fun _ h => h) (WS_pq [1, 2, 0] (lv' := [(0, .ref (A 179)), (1, .int (Int32.ofInt x)), (2, .int (Int32.ofInt 0))]) rfl (L115 ((200 - 0 : Int).toNat + 1) s127 x 0 Is127 Fs127 JFDA_s127 ⟨by have z := cho_end Qs112.1 (by first | exact b119.1 | (clear hps109 hps94 hps16; omega) | (clear hps94 hps16; omega) | omega) (by first | exact oq_1e5eb3fc g129 ws127_79 b117.1 | (clear hps109 hps94 hps16; omega) | (clear hps94 hps16; omega) | omega) (by first | exact oq_2d34da41 b115.1 hs112.2.1.2.1 g18 hps16 ws14_74 | (clear hps109 hps94 hps16; omega) | (clear hps94 hps16; omega) | omega); rw [show iI s112 86 = iI s127 86 by first | exact oq_18d11be6 ws127_86 | (clear hps109 hps94 hps16; omega) | (clear hps94 hps16; omega) | omega, show iI s112 88 = iI s127 88 by first | exact oq_18d11be6 ws127_88 | (clear hps109 hps94 hps16; omega) | (clear hps94 hps16; omega) | omega] at z; exact z, fun j hj => absurd hj (by first | exact oq_625ee044 | (clear hps109 hps94 hps16; omega) | (clear hps94 hps16; omega) | omega)⟩ (by first | exact ⟨by decide, And.intro (hs112.2.1.1) (hs112.2.1.2.1), oq_333640b7 ws127_74 hs112.2.2.1 b114.1, by decide, by decide, oq_e7b9ecab ws127_86 ws127_87 hs112.2.2.2.2.2.2.2.1, oq_b1fe1193 ws127_75 b116.2, oq_333640b7 ws127_73 hs112.2.2.2.2.2.2.2.2.2.1 b113.1, hs112.2.1.2.2, g129⟩ | exact And.intro (hs112.1) (And.intro (And.intro (hs112.2.1.1) (hs112.2.1.2.1)) (And.intro (oq_896be9ba ws127_74 b114.1 hs112.2.2.1) (And.intro (oq_0fe6b7e2) (And.intro (oq_b0c88ec2) (And.intro (oq_118a616f ws127_87 ws127_86 hs112.2.2.2.2.2.2.2.1) (And.intro (oq_b1fe1193 ws127_75 b116.2) (And.intro (oq_896be9ba ws127_73 b113.1 hs112.2.2.2.2.2.2.2.2.2.1) (And.intro (hs112.2.1.2.2) (g129))))))))) | omega) (Nat.lt_succ_self _) ?_)))
        intro s130 x131 Is130 Fs130 JFDA_s130 Qs130 hs130
        have b132 := bi_73 Is130
        have b133 := bi_74 Is130
        have b134 := bi_77 Is130
        have b135 := bi_75 Is130
        have b136 := bi_79 Is130
        have b137 := bi_78 Is130
        have b138 := bi_86 Is130
        have b139 := bi_87 Is130
        have b140 := bi_88 Is130
        have b141 := bi_81 Is130
        have b142 := bi_83 Is130
        have b143 := bi_85 Is130
        have b144 := bi_82 Is130
        refine z_aload_n X (x := A 179) rfl (List.Mem.head _) (z_load_n X (x := x) rfl (List.Mem.tail _ (List.Mem.head _)) (s_putI X 179 rfl (c518_ok rfl) rfl rfl (by decide) rfl rfl rfl (wd_gen (fun s145 hs145 => ?_))))
        have Is145 : Bd s145 := eqB hs145 (bd_I Is130 (show (0 : Int) ≤ x ∧ x ≤ 200 by first | exact ⟨hs130.2.1.1, hs130.2.2.2.2.2.2.2.2.1⟩ | omega) ⟨by first | exact p0.1 | omega, by first | exact p0.2 | omega⟩)
        have Fs145 := eqF hs145 (fm_I Fs130 (inl_ok (a := 82) rfl))
        have vs145 : iI s145 82 = x := eqI hs145 (iI_u ⟨by first | exact p0.1 | omega, by first | exact p0.2 | omega⟩)
        have ws145_73 : iI s145 73 = iI s130 73 := eqI hs145 rfl
        have ws145_74 : iI s145 74 = iI s130 74 := eqI hs145 rfl
        have ws145_77 : iI s145 77 = iI s130 77 := eqI hs145 rfl
        have ws145_75 : iI s145 75 = iI s130 75 := eqI hs145 rfl
        have ws145_79 : iI s145 79 = iI s130 79 := eqI hs145 rfl
        have ws145_78 : iI s145 78 = iI s130 78 := eqI hs145 rfl
        have ws145_86 : iI s145 86 = iI s130 86 := eqI hs145 rfl
        have ws145_87 : iI s145 87 = iI s130 87 := eqI hs145 rfl
        have ws145_88 : iI s145 88 = iI s130 88 := eqI hs145 rfl
        have ws145_81 : iI s145 81 = iI s130 81 := eqI hs145 rfl
        have ws145_83 : iI s145 83 = iI s130 83 := eqI hs145 rfl
        have ws145_85 : iI s145 85 = iI s130 85 := eqI hs145 rfl
        have aws145_158 : SAM 158 s130 s145 := by rw [hs145]; exact (sam_rf (a := 158) (s := s130))
        have fs145 : Fm [82] [] s130 s145 := by rw [hs145]; exact fm_I (fm_rf _ _ _) (show 82 ∈ _ by decide)
        have JFDA_s145 : FDA B s145 := FDA_fm fs145 (by decide) JFDA_s130
        refine z_aload_n X (x := A 179) rfl (List.Mem.head _) (z_aload_n X (x := A 179) rfl (List.Mem.head _) (z_getI X 179 rfl (c518_ok rfl) rfl rfl ?_))
        have b146 := bi_86 Is145
        refine s_putI X 179 rfl (c518_ok rfl) rfl rfl (by decide) rfl rfl rfl (wd_gen (fun s147 hs147 => ?_))
        have Is147 : Bd s147 := eqB hs147 (bd_I Is145 (show (0 : Int) ≤ (iI s145 86) ∧ (iI s145 86) ≤ 8 by first | exact ⟨b146.1, b146.2⟩ | omega) (rng_to _))
        have Fs147 := eqF hs147 (fm_I Fs145 (inl_ok (a := 83) rfl))
        have vs147 : iI s147 83 = (iI s145 86) := eqI hs147 (iI_u (rng_to _))
        have ws147_73 : iI s147 73 = iI s145 73 := eqI hs147 rfl
        have ws147_74 : iI s147 74 = iI s145 74 := eqI hs147 rfl
        have ws147_77 : iI s147 77 = iI s145 77 := eqI hs147 rfl
        have ws147_75 : iI s147 75 = iI s145 75 := eqI hs147 rfl
        have ws147_79 : iI s147 79 = iI s145 79 := eqI hs147 rfl
        have ws147_78 : iI s147 78 = iI s145 78 := eqI hs147 rfl
        have ws147_86 : iI s147 86 = iI s145 86 := eqI hs147 rfl
        have ws147_87 : iI s147 87 = iI s145 87 := eqI hs147 rfl
        have ws147_88 : iI s147 88 = iI s145 88 := eqI hs147 rfl
        have ws147_81 : iI s147 81 = iI s145 81 := eqI hs147 rfl
        have ws147_85 : iI s147 85 = iI s145 85 := eqI hs147 rfl
        have ws147_82 : iI s147 82 = iI s145 82 := eqI hs147 rfl
        have aws147_158 : SAM 158 s130 s147 := by rw [hs147]; exact aws145_158
        have fs147 : Fm [83] [] s145 s147 := by rw [hs147]; exact fm_I (fm_rf _ _ _) (show 83 ∈ _ by decide)
        have JFDA_s147 : FDA B s147 := FDA_fm fs147 (by decide) JFDA_s145
        refine z_aload_n X (x := A 179) rfl (List.Mem.head _) (z_aload_n X (x := A 179) rfl (List.Mem.head _) (z_getI X 179 rfl (c518_ok rfl) rfl rfl ?_))
        have b148 := bi_87 Is147
        refine s_putI X 179 rfl (c518_ok rfl) rfl rfl (by decide) rfl rfl rfl (wd_gen (fun s149 hs149 => ?_))
        have Is149 : Bd s149 := eqB hs149 (bd_I Is147 (show (0 : Int) ≤ (iI s147 87) ∧ (iI s147 87) ≤ 8 by first | exact ⟨b148.1, b148.2⟩ | omega) (rng_to _))
        have Fs149 := eqF hs149 (fm_I Fs147 (inl_ok (a := 84) rfl))
        have vs149 : iI s149 84 = (iI s147 87) := eqI hs149 (iI_u (rng_to _))
        have ws149_73 : iI s149 73 = iI s147 73 := eqI hs149 rfl
        have ws149_74 : iI s149 74 = iI s147 74 := eqI hs149 rfl
        have ws149_77 : iI s149 77 = iI s147 77 := eqI hs149 rfl
        have ws149_75 : iI s149 75 = iI s147 75 := eqI hs149 rfl
        have ws149_79 : iI s149 79 = iI s147 79 := eqI hs149 rfl
        have ws149_78 : iI s149 78 = iI s147 78 := eqI hs149 rfl
        have ws149_86 : iI s149 86 = iI s147 86 := eqI hs149 rfl
        have ws149_87 : iI s149 87 = iI s147 87 := eqI hs149 rfl
        have ws149_88 : iI s149 88 = iI s147 88 := eqI hs149 rfl
        have ws149_81 : iI s149 81 = iI s147 81 := eqI hs149 rfl
        have ws149_83 : iI s149 83 = iI s147 83 := eqI hs149 rfl
        have ws149_85 : iI s149 85 = iI s147 85 := eqI hs149 rfl
        have ws149_82 : iI s149 82 = iI s147 82 := eqI hs149 rfl
        have aws149_158 : SAM 158 s130 s149 := by rw [hs149]; exact aws147_158
        have fs149 : Fm [84] [] s147 s149 := by rw [hs149]; exact fm_I (fm_rf _ _ _) (show 84 ∈ _ by decide)
        have JFDA_s149 : FDA B s149 := FDA_fm fs149 (by decide) JFDA_s147
        refine z_aload_n X (x := A 179) rfl (List.Mem.head _) (z_aload_n X (x := A 179) rfl (List.Mem.head _) (z_getI X 179 rfl (c518_ok rfl) rfl rfl ?_))
        have b150 := bi_88 Is149
        refine s_putI X 179 rfl (c518_ok rfl) rfl rfl (by decide) rfl rfl rfl (wd_gen (fun s151 hs151 => ?_))
        have Is151 : Bd s151 := eqB hs151 (bd_I Is149 (show ((-1) : Int) ≤ (iI s149 88) ∧ (iI s149 88) ≤ 200 by first | exact ⟨b150.1, b150.2⟩ | omega) (rng_to _))
        have Fs151 := eqF hs151 (fm_I Fs149 (inl_ok (a := 85) rfl))
        have vs151 : iI s151 85 = (iI s149 88) := eqI hs151 (iI_u (rng_to _))
        have ws151_73 : iI s151 73 = iI s149 73 := eqI hs151 rfl
        have ws151_74 : iI s151 74 = iI s149 74 := eqI hs151 rfl
        have ws151_77 : iI s151 77 = iI s149 77 := eqI hs151 rfl
        have ws151_75 : iI s151 75 = iI s149 75 := eqI hs151 rfl
        have ws151_79 : iI s151 79 = iI s149 79 := eqI hs151 rfl
        have ws151_78 : iI s151 78 = iI s149 78 := eqI hs151 rfl
        have ws151_86 : iI s151 86 = iI s149 86 := eqI hs151 rfl
        have ws151_87 : iI s151 87 = iI s149 87 := eqI hs151 rfl
        have ws151_88 : iI s151 88 = iI s149 88 := eqI hs151 rfl
        have ws151_81 : iI s151 81 = iI s149 81 := eqI hs151 rfl
        have ws151_83 : iI s151 83 = iI s149 83 := eqI hs151 rfl
        have ws151_82 : iI s151 82 = iI s149 82 := eqI hs151 rfl
        have aws151_158 : SAM 158 s130 s151 := by rw [hs151]; exact aws149_158
        have fs151 : Fm [85] [] s149 s151 := by rw [hs151]; exact fm_I (fm_rf _ _ _) (show 85 ∈ _ by decide)
        have JFDA_s151 : FDA B s151 := FDA_fm fs151 (by decide) JFDA_s149
        refine z_const X rfl (z_store_n X (lv' := [(2, .int (Int32.ofInt 0)), (0, .ref (A 179)), (1, .int (Int32.ofInt x))]) rfl (by decide) (fun _ h => h) (WS_pq [1, 2, 0] (lv' := [(0, .ref (A 179)), (1, .int (Int32.ofInt x)), (2, .int (Int32.ofInt 0))]) rfl (L169 ((8 - 0 : Int).toNat + 1) s151 x 0 Is151 Fs151 JFDA_s151 ⟨by rw [show iI s151 83 = iI s130 86 by first | exact oq_ac0e91e1 ws151_83 ws149_83 vs147 ws145_86 | (clear hps109 hps94 hps16; omega) | (clear hps94 hps16; omega) | omega, show iI s151 85 = iI s130 88 by first | exact oq_ac0e91e1 vs151 ws149_88 ws147_88 ws145_88 | (clear hps109 hps94 hps16; omega) | (clear hps94 hps16; omega) | omega]; exact Qs130.1, by first | exact oq_ac0e91e1 ws151_82 ws149_82 ws147_82 vs145 | (clear hps109 hps94 hps16; omega) | (clear hps94 hps16; omega) | omega, fun j hj => (aws151_158 j).trans (Qs130.2 j (by first | exact oq_c51ca0d4 hj hs130.2.2.2.2.2.2.2.2.2.2 | (clear hps109 hps94 hps16; omega) | (clear hps94 hps16; omega) | omega))⟩ (by first | exact ⟨by decide, And.intro (hs130.2.1.1) (hs130.2.1.2), oq_d0299403 ws151_74 ws149_74 ws147_74 ws145_74 hs130.2.2.1 b133.1, by decide, by decide, oq_d0299403 ws151_73 ws149_73 ws147_73 ws145_73 hs130.2.2.2.2.2.2.2.1 b132.1, oq_ac0e91e1 ws151_82 ws149_82 ws147_82 vs145⟩ | exact And.intro (hs130.1) (And.intro (And.intro (hs130.2.1.1) (hs130.2.1.2)) (And.intro (oq_f6c784f6 ws151_74 ws149_74 ws147_74 ws145_74 b133.1 hs130.2.2.1) (And.intro (oq_0fe6b7e2) (And.intro (oq_1ed47a9a) (And.intro (oq_f6c784f6 ws151_73 ws149_73 ws147_73 ws145_73 b132.1 hs130.2.2.2.2.2.2.2.1) (oq_ac0e91e1 ws151_82 ws149_82 ws147_82 vs145)))))) | omega) (Nat.lt_succ_self _) ?_)))
        intro s152 x153 Is152 Fs152 JFDA_s152 Qs152 hs152
        have b154 := bi_73 Is152
        have b155 := bi_74 Is152
        have b156 := bi_77 Is152
        have b157 := bi_75 Is152
        have b158 := bi_79 Is152
        have b159 := bi_78 Is152
        have b160 := bi_86 Is152
        have b161 := bi_87 Is152
        have b162 := bi_88 Is152
        have b163 := bi_81 Is152
        have b164 := bi_83 Is152
        have b165 := bi_85 Is152
        have b166 := bi_82 Is152
        refine z_aload_n X (x := A 179) rfl (List.Mem.head _) (z_getI X 179 rfl (c518_ok rfl) rfl rfl ?_)
        have b167 := bi_83 Is152
        exact w_iret X.1 q hRt rfl (ax_d X (show cdA 214 199 = some (.ireturn, 1, 0, 0, 0) from rfl)) (Nat.zero_le _) (Nat.zero_le _) ⟨_, rfl, Is152, Fs152, JFDA_s152, (iI s152 83), rfl, (rng_to _), Or.inl ⟨by first | exact hs152.2.1.1 | omega, by first | exact hs152.2.1.2 | omega, by first | exact hs152.2.2.1 | omega, by first | exact hs152.2.2.2.2.2.1 | omega, Or.inl ⟨by first | exact b167.1 | omega, by have h := Qs152; rw [show iI s152 83 = (iI s152 83) by first | exact rfl | (clear hps109 hps94 hps16; omega) | (clear hps94 hps16; omega) | omega] at h; obtain ⟨⟨k, c, h1⟩, h2, h3⟩ := h; exact ⟨k, c, h1, h2, h3⟩⟩⟩⟩
      ·
        refine z_aload_n X (x := A 179) rfl (List.Mem.head _) (z_getI X 179 rfl (c518_ok rfl) rfl rfl ?_)
        have b168 := bi_79 Is127
        refine z_bipush X rfl (z_sub X rfl ?_)
        exact w_iret X.1 q hRt rfl (ax_d X (show cdA 214 112 = some (.ireturn, 1, 0, 0, 0) from rfl)) (Nat.zero_le _) (Nat.zero_le _) ⟨_, rfl, Is127, Fs127, JFDA_s127, ((iI s127 79) - 10), rfl, ⟨by first | exact oq_d3c9ade5 b168.1 | omega, by first | exact oq_71609f9f b168.2 | omega⟩, Or.inl ⟨by first | exact hs112.2.1.1 | omega, by first | exact hs112.2.1.2.1 | omega, by first | exact oq_333640b7 ws127_74 hs112.2.2.1 b114.1 | omega, by first | exact oq_333640b7 ws127_73 hs112.2.2.2.2.2.2.2.2.2.1 b113.1 | omega, Or.inr ⟨by first | exact oq_a634ad6e b168.2 | omega, cho_bad Qs112.1 ⟨by first | exact oq_970d7846 b168.1 g129 ws127_79 | (clear g129 hps109 hps94 hps16; omega) | (clear hps109 hps94 hps16; omega) | omega, by first | exact oq_aa527afa ws127_79 | (clear g129 hps109 hps94 hps16; omega) | (clear hps109 hps94 hps16; omega) | omega⟩, by first | exact oq_1aa5be9e ws127_85 hs112.2.2.2.2.2.2.2.2.2.2.1 | omega, by first | exact oq_1aa5be9e ws127_82 hs112.2.2.2.2.2.2.2.2.2.2.2.1 | omega, sam_ts Qs112.2.2 aws127_158⟩⟩⟩
    ·
      refine z_const X rfl ?_
      exact w_iret X.1 q hRt rfl (ax_d X (show cdA 214 31 = some (.ireturn, 1, 0, 0, 0) from rfl)) (Nat.zero_le _) (Nat.zero_le _) ⟨_, rfl, Is94, Gs94, JFDA_s94, 0, rfl, (by decide), Or.inr ⟨by first | exact oq_5e46c7aa g18 hps16 ws14_74 | omega, by first | exact oq_1aa5be9e ws94_74 ws14_74 | omega, by first | exact oq_faabd673 g97 hps94 vs14 | exact oq_e8001c64 hps94 vs14 | omega, by first | exact oq_1aa5be9e ws94_85 ws14_85 | omega, by first | exact oq_1aa5be9e ws94_82 ws14_82 | omega, aws94_158⟩⟩
set_option maxRecDepth 4000 in
theorem c7_readClause4 (G : GX l s0 D tys a0 dT) {B : Nat → Int} {N : Int} (SF : SF0 s0) (GT : TXw0 s0) (I : Bd s) (jBYW : BYW B N s) (jTKS : TKS B N s) {x : Int} (p0 : 0 ≤ x ∧ x ≤ 8) (p1 : iI s 2 ≤ iI s 1) (p2 : iI s 4 ≤ iI s 2) (p3 : iI s 19 = 0) (p4 : iI s 16 ≤ iI s 4) : CT l s0 D A dT 71 (rmN 71) [.ref (A 19), .int (Int32.ofInt x)] s (fun o t => Bd t ∧ Fm [2, 4, 6, 5, 7, 8, 19, 16, 17, 18] [18, 19] s t ∧ BYW B N t ∧ TKS B N t ∧ ∃ e, o = .inl (some (.int (Int32.ofInt e))) ∧ rng e ∧ ((e = 0 ∨ (e = 1 ∧ iI t 19 = 0 ∧ iI s 4 < iI t 4 ∧ iI t 4 ≤ N ∧ iI t 16 ≤ iI t 4)) ∧ iI t 2 ≤ iI t 1 ∧ iI t 4 ≤ iI t 2 ∧ CLD B N x s t e)) := by
  refine ct_ofX G (by decide) (Nat.le_of_ble_eq_true rfl) (fun k X E ET hRt hXt q => ?_)
  show WS k 0 [(0, .ref (A 19)), (1, .int (Int32.ofInt x))] [] _ 0 0
  have F : Fm [2, 4, 6, 5, 7, 8, 19, 16, 17, 18] [18, 19] s s := fm_rf _ _ s
  have aw0_19 : SAM 19 s s := sam_rf
  have aw0_18 : SAM 18 s s := sam_rf
  have hN := jBYW.2.1
  have hW := jBYW.2.2
  have hwd := tkw_wd jTKS
  have b1 := bi_2 I
  have b2 := bi_1 I
  have b3 := bi_4 I
  have b4 := bi_5 I
  have b5 := bi_6 I
  have b6 := bi_19 I
  have b7 := bi_16 I
  have b8 := bi_7 I
  have b9 := bi_17 I
  refine z_aload_n X (x := A 19) rfl (List.Mem.head _) (s_getR X 19 rfl (c518_ok rfl) rfl rfl ?_)
  obtain ⟨tx74, q74, hR74, hS74⟩ := GT (74, [108, 111, 97, 100]) (by decide)
  refine w_ldcK X (show vk_R (kOwn k) 74 tx74 q74 (kS0 k) by rw [E.2.1, X.2.1.2.1]; exact hR74) (show decode (kCc k) 4 = .ok (.ldc 74, 2) by rw [X.2.1.1]; decide +kernel) (zcV_i2 X E 1 (As := [.ref q74]) (st := []) rfl rfl rfl rfl (c10_says3 G SF hS74 (by decide) I jBYW jTKS (by first | exact p2 | omega)) rfl (Nat.le_of_ble_eq_true rfl) (fun s10 e11 Is10 Fs10 JBYW_s10 JTKS_s10 hrs10 hps10 => ?_))
  have Gs10 := fm_tq F Fs10 rfl rfl
  have JBYW_s10 : BYW B N s10 := BYW_fm Fs10 (by decide) jBYW
  have JTKS_s10 : TKS B N s10 := TKS_fm Fs10 (by decide) jTKS
  have ws10_2 : iI s10 2 = iI s 2 := fm_iq Fs10 rfl
  have ws10_1 : iI s10 1 = iI s 1 := fm_iq Fs10 rfl
  have ws10_4 : iI s10 4 = iI s 4 := fm_iq Fs10 rfl
  have ws10_5 : iI s10 5 = iI s 5 := fm_iq Fs10 rfl
  have ws10_6 : iI s10 6 = iI s 6 := fm_iq Fs10 rfl
  have ws10_19 : iI s10 19 = iI s 19 := fm_iq Fs10 rfl
  have ws10_16 : iI s10 16 = iI s 16 := fm_iq Fs10 rfl
  have ws10_7 : iI s10 7 = iI s 7 := fm_iq Fs10 rfl
  have ws10_17 : iI s10 17 = iI s 17 := fm_iq Fs10 rfl
  have aws10_19 : SAM 19 s s10 := sam_ts aw0_19 (sam_fm Fs10 (by decide))
  have aws10_18 : SAM 18 s s10 := sam_ts aw0_18 (sam_fm Fs10 (by decide))
  have hws10 : (e11 = 1 ∧ whV B N (iI s 4) = 247162) ∨ (e11 = 0 ∧ whV B N (iI s 4) ≠ 247162) := by have h := hps10; rw [show iI s 4 = iI s 4 by first | exact rfl | (clear hps10; omega) | omega, show whL [108, 111, 97, 100] 0 = 247162 by decide] at h; exact h
  refine z_store_n X (lv' := [(2, .int (Int32.ofInt e11)), (0, .ref (A 19)), (1, .int (Int32.ofInt x))]) rfl (by decide) (fun _ h => h) (z_load_n X (x := e11) rfl (List.Mem.head _) (z_if_ne X (t := 35) rfl rfl hrs10 (fun g12 => ?_) (fun g12 => ?_)))
  ·
    refine z_load_n X (x := x) rfl (List.Mem.tail _ (List.Mem.tail _ (List.Mem.head _))) (z_bipush X rfl (z_icmp_lt X (t := 50) rfl rfl ⟨by first | exact oq_fa4e5087 p0.1 | omega, by first | exact oq_d3f5d874 p0.2 | omega⟩ (by decide) (fun g13 => ?_) (fun g13 => ?_)))
    ·
      have hwl : whV B N (iI s 4) = 247162 ∨ whV B N (iI s 4) = 208022 := by first | exact Or.inl (oq_96060be6 g12 hws10) | (clear g12 hps10; omega) | (clear hps10; omega) | omega
      have hk3 : iI s 5 = -3 := Classical.byContradiction (fun q => by have := hwd.2 q; omega)
      have ha3 := (hwd.1 hk3).1
      have hg3 := (hwd.1 hk3).2
      have hsk := sk_le (B := B) (N := N) (p := wdE B N (iI s 4))
      refine z_aload_n X (x := A 19) rfl (List.Mem.tail _ (List.Mem.head _)) (s_getR X 19 rfl (c518_ok rfl) rfl rfl (zcV_v2 X E 1 (As := []) (st := []) rfl rfl rfl rfl (c10_step3 G Is10 JBYW_s10 (by first | exact oq_e7b9ecab ws10_1 ws10_2 p1 | omega)) rfl (Nat.le_of_ble_eq_true rfl) (fun s14 Is14 Fs14 JBYW_s14 JTKS_s14 hps14 => ?_)))
      have Gs14 := fm_tq Gs10 Fs14 rfl rfl
      have JBYW_s14 : BYW B N s14 := BYW_fm Fs14 (by decide) JBYW_s10
      have b16 := bi_2 Is14
      have ws14_1 : iI s14 1 = iI s10 1 := fm_iq Fs14 rfl
      have b17 := bi_4 Is14
      have b18 := bi_5 Is14
      have b19 := bi_6 Is14
      have ws14_19 : iI s14 19 = iI s10 19 := fm_iq Fs14 rfl
      have ws14_16 : iI s14 16 = iI s10 16 := fm_iq Fs14 rfl
      have ws14_7 : iI s14 7 = iI s10 7 := fm_iq Fs14 rfl
      have ws14_17 : iI s14 17 = iI s10 17 := fm_iq Fs14 rfl
      have aws14_19 : SAM 19 s s14 := sam_ts aws10_19 (sam_fm Fs14 (by decide))
      have aws14_18 : SAM 18 s s14 := sam_ts aws10_18 (sam_fm Fs14 (by decide))
      have hs1 : iI s14 4 = sk B N (wdE B N (iI s 4)) := by rw [hps14.2.2.1, show iI s10 2 = wdE B N (iI s 4) by first | exact oq_27118732 ha3 ws10_2 | (clear g12 hps10; omega) | (clear hps10; omega) | omega]
      refine z_load_n X (x := e11) rfl (List.Mem.head _) (z_if_eq X (t := 71) rfl rfl hrs10 (fun g20 => ?_) (fun g20 => ?_))
      ·
        exfalso
        omega
      ·
        refine z_aload_n X (x := A 19) rfl (List.Mem.tail _ (List.Mem.head _)) (z_callV X 19 (rm := (rkR (4 * (7) + 3))) (As := []) (st := []) rfl rfl (by decide) rfl (by rw [E.1, E.2.1, E.2.2.1]; exact (c7_sumr3 G (B := B) (N := N) SF GT 7).2.2.2 Is14 JBYW_s14 JTKS_s14 (by first | exact hps14.1 | omega) (by first | exact hps14.2.1 | omega) (by first | exact oq_7d321bf4 ws14_19 ws10_19 b6.1 | omega) (by first | exact oq_c0fb8fc4 ws14_16 hps14.2.2.2 ws10_16 ws10_2 p4 p2 | omega)) ⟨by rw [E.2.2.2]; exact (show (12 + (4 * (7) + 3)) + 1 ≤ 68 from oq_4cedc687), by rw [E.2.2.2]; exact (show 8 + (3 + 11) + (500 + 45 * (4 * (7) + 3)) ≤ 2996 from oq_b0ed7f34), by rw [E.2.2.2]; exact Nat.le_refl 0, by rw [E.2.2.2]; exact Nat.le_refl 0⟩ (Nat.le_of_ble_eq_true rfl) (fun vv s21 hq => ?_) (fun ee s21 hq => ?_))
        rotate_left
        · obtain ⟨Is21, Fs21, JBYW_s21, JTKS_s21, e22, hv, hrs21, hps21⟩ := hq; cases hv
        obtain ⟨Is21, Fs21, JBYW_s21, JTKS_s21, e22, hv, hrs21, hps21⟩ := hq
        cases hv
        have Gs21 := fm_tq Gs14 Fs21 rfl rfl
        have JBYW_s21 : BYW B N s21 := BYW_fm Fs21 (by decide) JBYW_s14
        have b23 := bi_2 Is21
        have ws21_1 : iI s21 1 = iI s14 1 := fm_iq Fs21 rfl
        have b24 := bi_4 Is21
        have b25 := bi_5 Is21
        have b26 := bi_6 Is21
        have b27 := bi_19 Is21
        have b28 := bi_16 Is21
        have b29 := bi_7 Is21
        have ws21_17 : iI s21 17 = iI s14 17 := fm_iq Fs21 rfl
        have aws21_19 : SAM 19 s s21 := sam_ts aws14_19 (sam_fm Fs21 (by decide))
        show WS k 65 [(2, .int (Int32.ofInt e11)), (0, .ref (A 19)), (1, .int (Int32.ofInt x))] [.int (Int32.ofInt e22)] (Wd A dT s21) 0 0
        refine z_if_ne X (t := 80) rfl rfl hrs21 (fun g30 => ?_) (fun g30 => ?_)
        ·
          refine z_aload_n X (x := A 19) rfl (List.Mem.tail _ (List.Mem.head _)) (z_bipush X rfl (zcV_i2 X E 19 (As := [.int (Int32.ofInt 59)]) (st := []) rfl rfl rfl rfl (c7_pass3 G Is21 JBYW_s21 JTKS_s21 (by first | exact ⟨by decide, by decide⟩ | omega) (by first | exact Or.inr (by decide) | omega) (by first | exact Or.inl (by decide) | omega) (by first | exact hps21.2.1 | omega) (by first | exact hps21.2.2.1 | omega)) rfl (Nat.le_of_ble_eq_true rfl) (fun s31 e32 Is31 Fs31 JBYW_s31 JTKS_s31 hrs31 hps31 => ?_)))
          have hps31p := And.intro hps31.2.1 (And.intro hps31.2.2.1 (hps31.2.2.2))
          have Gs31 := fm_tq Gs21 Fs31 rfl rfl
          have JBYW_s31 : BYW B N s31 := BYW_fm Fs31 (by decide) JBYW_s21
          have b33 := bi_2 Is31
          have ws31_1 : iI s31 1 = iI s21 1 := fm_iq Fs31 rfl
          have b34 := bi_4 Is31
          have b35 := bi_5 Is31
          have b36 := bi_6 Is31
          have ws31_19 : iI s31 19 = iI s21 19 := fm_iq Fs31 rfl
          have ws31_16 : iI s31 16 = iI s21 16 := fm_iq Fs31 rfl
          have b37 := bi_7 Is31
          have ws31_17 : iI s31 17 = iI s21 17 := fm_iq Fs31 rfl
          have aws31_19 : SAM 19 s s31 := sam_ts aws21_19 (sam_fm Fs31 (by decide))
          have hpg : e32 ≠ 0 → iI s21 4 < iI s31 4 ∧ iI s31 4 ≤ N := fun h => pss_gt hps31.2.2.2 h
          refine z_if_ne X (t := 91) rfl rfl hrs31 (fun g38 => ?_) (fun g38 => ?_)
          ·
            refine z_aload_n X (x := A 19) rfl (List.Mem.tail _ (List.Mem.head _)) (s_getR X 19 rfl (c518_ok rfl) rfl rfl (z_load_n X (x := x) rfl (List.Mem.tail _ (List.Mem.tail _ (List.Mem.head _))) (z_aload_n X (x := A 19) rfl (List.Mem.tail _ (List.Mem.head _)) (z_getI X 19 rfl (c518_ok rfl) rfl rfl ?_))))
            have b39 := bi_16 Is31
            refine z_ast X 23 rfl (c518_ok rfl) rfl (by first | exact p0.1 | omega) (show x < 8 by first | exact g13 | omega) (cbig_ok rfl) (wd_gen (fun s40 hs40 => ?_))
            have Is40 : Bd s40 := eqB hs40 (bd_C Is31 (show (0 : Int) ≤ (iI s31 16) ∧ (iI s31 16) ≤ 200 by first | exact ⟨b39.1, b39.2⟩ | omega) (rng_to _))
            have Fs40 := eqF hs40 (fm_C Gs31 (inl_ok (a := 19) rfl))
            have ws40_2 : iI s40 2 = iI s31 2 := eqI hs40 rfl
            have ws40_1 : iI s40 1 = iI s31 1 := eqI hs40 rfl
            have ws40_4 : iI s40 4 = iI s31 4 := eqI hs40 rfl
            have ws40_5 : iI s40 5 = iI s31 5 := eqI hs40 rfl
            have ws40_6 : iI s40 6 = iI s31 6 := eqI hs40 rfl
            have ws40_19 : iI s40 19 = iI s31 19 := eqI hs40 rfl
            have ws40_16 : iI s40 16 = iI s31 16 := eqI hs40 rfl
            have ws40_7 : iI s40 7 = iI s31 7 := eqI hs40 rfl
            have ws40_17 : iI s40 17 = iI s31 17 := eqI hs40 rfl
            have aws40_19 : UPD 19 (x) (iI s31 16) s s40 := by rw [hs40]; exact upd_put aws31_19 (rng_to _)
            have fs40 : Fm [] [19] s31 s40 := by rw [hs40]; exact fm_C (fm_rf _ _ _) (show 19 ∈ _ by decide)
            have JBYW_s40 : BYW B N s40 := BYW_fm fs40 (by decide) JBYW_s31
            have JTKS_s40 : TKS B N s40 := TKS_fm fs40 (by decide) JTKS_s31
            refine z_load_n X (x := e11) rfl (List.Mem.head _) (z_if_eq X (t := 113) rfl rfl hrs10 (fun g41 => ?_) (fun g41 => ?_))
            ·
              exfalso
              omega
            ·
              refine z_aload_n X (x := A 19) rfl (List.Mem.tail _ (List.Mem.head _)) (z_load_n X (x := x) rfl (List.Mem.tail _ (List.Mem.tail _ (List.Mem.head _))) (s_putI X 19 rfl (c518_ok rfl) rfl rfl (by decide) rfl rfl rfl (wd_gen (fun s42 hs42 => ?_))))
              have Is42 : Bd s42 := eqB hs42 (bd_I Is40 (show ((-1) : Int) ≤ x ∧ x ≤ 7 by first | exact ⟨oq_ca54ea22 p0.1, oq_78c639ed g13⟩ | omega) ⟨by first | exact oq_fa4e5087 p0.1 | omega, by first | exact oq_7bea7075 g13 | omega⟩)
              have Fs42 := eqF hs42 (fm_I Fs40 (inl_ok (a := 17) rfl))
              have vs42 : iI s42 17 = x := eqI hs42 (iI_u ⟨by first | exact oq_fa4e5087 p0.1 | omega, by first | exact oq_7bea7075 g13 | omega⟩)
              have ws42_2 : iI s42 2 = iI s40 2 := eqI hs42 rfl
              have ws42_1 : iI s42 1 = iI s40 1 := eqI hs42 rfl
              have ws42_4 : iI s42 4 = iI s40 4 := eqI hs42 rfl
              have ws42_5 : iI s42 5 = iI s40 5 := eqI hs42 rfl
              have ws42_6 : iI s42 6 = iI s40 6 := eqI hs42 rfl
              have ws42_19 : iI s42 19 = iI s40 19 := eqI hs42 rfl
              have ws42_16 : iI s42 16 = iI s40 16 := eqI hs42 rfl
              have ws42_7 : iI s42 7 = iI s40 7 := eqI hs42 rfl
              have aws42_19 : UPD 19 (x) (iI s31 16) s s42 := by rw [hs42]; exact aws40_19
              have fs42 : Fm [17] [] s40 s42 := by rw [hs42]; exact fm_I (fm_rf _ _ _) (show 17 ∈ _ by decide)
              have JBYW_s42 : BYW B N s42 := BYW_fm fs42 (by decide) JBYW_s40
              have JTKS_s42 : TKS B N s42 := TKS_fm fs42 (by decide) JTKS_s40
              refine z_goto X (t := 125) rfl rfl (z_const X rfl ?_)
              have hCL : CLD B N x s s42 1 := cld_of (a := s14) (b := s21) (c := s31) (Or.inl ⟨by first | exact oq_8a74ed36 g41 hwl hws10 | (clear g41 g38 hps31 g30 hps21 g20 g12 hps10; omega) | (clear g38 hps31 g30 hps21 g20 g12 hps10; omega) | omega, rfl⟩) (by first | exact g13 | (clear g41 g38 hps31 g30 hps21 g20 g12 hps10; omega) | (clear g38 hps31 g30 hps21 g20 g12 hps10; omega) | omega) (DL_sam (by first | exact oq_1aa5be9e ws14_16 ws10_16 | (clear g41 g38 hps31 g30 hps21 g20 g12 hps10; omega) | (clear g38 hps31 g30 hps21 g20 g12 hps10; omega) | omega) aws14_18) (by have h := hps21.2.2.2; rw [show iI s14 4 = sk B N (wdE B N (iI s 4)) by first | exact hs1 | (clear g41 g38 hps31 g30 hps21 g20 g12 hps10; omega) | (clear g38 hps31 g30 hps21 g20 g12 hps10; omega) | omega, show iI s14 19 = 0 by first | exact oq_de8dffce ws14_19 ws10_19 b6.1 p3 | (clear g41 g38 hps31 g30 hps21 g20 g12 hps10; omega) | (clear g38 hps31 g30 hps21 g20 g12 hps10; omega) | omega] at h; exact h) (by first | exact g30 | (clear g41 g38 hps31 g30 hps21 g20 g12 hps10; omega) | (clear g38 hps31 g30 hps21 g20 g12 hps10; omega) | omega) (by have h := hps31.2.2.2; rw [show e32 = 1 by first | exact oq_46b3e003 g38 hps31.1 | (clear g41 g38 hps31 g30 hps21 g20 g12 hps10; omega) | (clear g38 hps31 g30 hps21 g20 g12 hps10; omega) | omega] at h; exact h) (by first | exact oq_1aa5be9e ws42_4 ws40_4 | (clear g41 g38 hps31 g30 hps21 g20 g12 hps10; omega) | (clear g38 hps31 g30 hps21 g20 g12 hps10; omega) | omega) ((DL_sam (s := s31) (t := s42) (by first | exact oq_1aa5be9e ws42_16 ws40_16 | (clear g41 g38 hps31 g30 hps21 g20 g12 hps10; omega) | (clear g38 hps31 g30 hps21 g20 g12 hps10; omega) | omega) (fun j => by rw [hs42, hs40]; exact iC_a (by decide))).trans (DL_fm Fs31 (by decide) (by decide))) (by rw [show iI s42 16 = iI s31 16 by first | exact oq_1aa5be9e ws42_16 ws40_16 | (clear g41 g38 hps31 g30 hps21 g20 g12 hps10; omega) | (clear g38 hps31 g30 hps21 g20 g12 hps10; omega) | omega]; exact aws42_19) (Or.inl ⟨rfl, by first | exact vs42 | (clear g41 g38 hps31 g30 hps21 g20 g12 hps10; omega) | (clear g38 hps31 g30 hps21 g20 g12 hps10; omega) | omega⟩)
              exact w_iret X.1 q hRt (nar_ret (by first | exact Or.inr (by decide) | omega)) (ax_d X (show cdA 71 126 = some (.ireturn, 1, 0, 0, 0) from rfl)) (Nat.zero_le _) (Nat.zero_le _) ⟨_, rfl, Is42, Fs42, JBYW_s42, JTKS_s42, 1, rfl, (by decide), ⟨by have := clc_e (cld_c hCL); omega, by first | exact oq_4407eb3c ws42_1 ws42_2 ws40_1 ws40_2 hps31.2.1 | omega, by first | exact oq_4407eb3c ws42_2 ws42_4 ws40_2 ws40_4 hps31.2.2.1 | omega, hCL⟩⟩
          ·
            refine z_const X rfl ?_
            have hCL : CLD B N x s s31 0 := cld_no (clc_of (c := s31) (Or.inl ⟨by first | exact oq_8a74ed36 g20 hwl hws10 | (clear hps31 g30 hps21 g20 g12 hps10; omega) | (clear g30 hps21 g20 g12 hps10; omega) | omega, rfl⟩) (by first | exact g13 | (clear hps31 g30 hps21 g20 g12 hps10; omega) | (clear g30 hps21 g20 g12 hps10; omega) | omega) (by have h := hps21.2.2.2; rw [show iI s14 4 = sk B N (wdE B N (iI s 4)) by first | exact hs1 | (clear hps31 g30 hps21 g20 g12 hps10; omega) | (clear g30 hps21 g20 g12 hps10; omega) | omega, show iI s14 19 = 0 by first | exact oq_de8dffce ws14_19 ws10_19 b6.1 p3 | (clear hps31 g30 hps21 g20 g12 hps10; omega) | (clear g30 hps21 g20 g12 hps10; omega) | omega] at h; exact h) (Or.inr ⟨by first | exact g30 | (clear hps31 g30 hps21 g20 g12 hps10; omega) | (clear g30 hps21 g20 g12 hps10; omega) | omega, (by have h := hps31.2.2.2; rw [show e32 = 0 by first | exact g38 | (clear hps31 g30 hps21 g20 g12 hps10; omega) | (clear g30 hps21 g20 g12 hps10; omega) | omega] at h; exact h), by first | exact rfl | (clear hps31 g30 hps21 g20 g12 hps10; omega) | (clear g30 hps21 g20 g12 hps10; omega) | omega, by first | exact rfl | (clear hps31 g30 hps21 g20 g12 hps10; omega) | (clear g30 hps21 g20 g12 hps10; omega) | omega⟩))
            exact w_iret X.1 q hRt (nar_ret (by first | exact Or.inl (by decide) | omega)) (ax_d X (show cdA 71 90 = some (.ireturn, 1, 0, 0, 0) from rfl)) (Nat.zero_le _) (Nat.zero_le _) ⟨_, rfl, Is31, Gs31, JBYW_s31, JTKS_s31, 0, rfl, (by decide), ⟨by have := clc_e (cld_c hCL); omega, by first | exact hps31.2.1 | omega, by first | exact hps31.2.2.1 | omega, hCL⟩⟩
        ·
          refine z_goto X (t := 78) rfl rfl (z_const X rfl ?_)
          have hCL : CLD B N x s s21 0 := cld_no (clc_of (c := s21) (Or.inl ⟨by first | exact oq_8a74ed36 g20 hwl hws10 | (clear hps21 g20 g12 hps10; omega) | (clear g20 g12 hps10; omega) | omega, rfl⟩) (by first | exact g13 | (clear hps21 g20 g12 hps10; omega) | (clear g20 g12 hps10; omega) | omega) (by have h := hps21.2.2.2; rw [show iI s14 4 = sk B N (wdE B N (iI s 4)) by first | exact hs1 | (clear hps21 g20 g12 hps10; omega) | (clear g20 g12 hps10; omega) | omega, show iI s14 19 = 0 by first | exact oq_de8dffce ws14_19 ws10_19 b6.1 p3 | (clear hps21 g20 g12 hps10; omega) | (clear g20 g12 hps10; omega) | omega] at h; exact h) (Or.inl ⟨by first | exact g30 | (clear hps21 g20 g12 hps10; omega) | (clear g20 g12 hps10; omega) | omega, rfl, by first | exact rfl | (clear hps21 g20 g12 hps10; omega) | (clear g20 g12 hps10; omega) | omega⟩))
          exact w_iret X.1 q hRt (nar_ret (by first | exact Or.inl (by decide) | omega)) (ax_d X (show cdA 71 79 = some (.ireturn, 1, 0, 0, 0) from rfl)) (Nat.zero_le _) (Nat.zero_le _) ⟨_, rfl, Is21, Gs21, JBYW_s21, JTKS_s21, 0, rfl, (by decide), ⟨by have := clc_e (cld_c hCL); omega, by first | exact hps21.2.1 | omega, by first | exact hps21.2.2.1 | omega, hCL⟩⟩
    ·
      refine z_aload_n X (x := A 19) rfl (List.Mem.tail _ (List.Mem.head _)) (s_getR X 19 rfl (c518_ok rfl) rfl rfl (z_const X rfl (zcV_i0 X E 1 (As := [.int (Int32.ofInt 3)]) (st := []) rfl rfl rfl rfl (c10_refuse3 G Is10 (by first | exact ⟨by decide, by decide⟩ | omega)) rfl (Nat.le_of_ble_eq_true rfl) (fun s43 e44 Is43 Fs43 hrs43 hps43 => ?_))))
      have Gs43 := fm_tq Gs10 Fs43 rfl rfl
      have JBYW_s43 : BYW B N s43 := BYW_fm Fs43 (by decide) JBYW_s10
      have JTKS_s43 : TKS B N s43 := TKS_fm Fs43 (by decide) JTKS_s10
      have ws43_2 : iI s43 2 = iI s10 2 := fm_iq Fs43 rfl
      have ws43_1 : iI s43 1 = iI s10 1 := fm_iq Fs43 rfl
      have ws43_4 : iI s43 4 = iI s10 4 := fm_iq Fs43 rfl
      have ws43_5 : iI s43 5 = iI s10 5 := fm_iq Fs43 rfl
      have ws43_6 : iI s43 6 = iI s10 6 := fm_iq Fs43 rfl
      have ws43_19 : iI s43 19 = iI s10 19 := fm_iq Fs43 rfl
      have ws43_16 : iI s43 16 = iI s10 16 := fm_iq Fs43 rfl
      have b45 := bi_7 Is43
      have ws43_17 : iI s43 17 = iI s10 17 := fm_iq Fs43 rfl
      have aws43_19 : SAM 19 s s43 := sam_ts aws10_19 (sam_fm Fs43 (by decide))
      have aws43_18 : SAM 18 s s43 := sam_ts aws10_18 (sam_fm Fs43 (by decide))
      have hCL : CLD B N x s s43 e44 := by rw [show e44 = 0 by first | exact hps43.1 | (clear g12 hps10; omega) | (clear hps10; omega) | omega]; exact cld_no (clc_3 (by first | exact Or.inl (oq_96060be6 g12 hws10) | (clear g12 hps10; omega) | (clear hps10; omega) | omega) (by first | exact g13 | (clear g12 hps10; omega) | (clear hps10; omega) | omega) (by first | exact hps43.2 | (clear g12 hps10; omega) | (clear hps10; omega) | omega))
      exact w_iret X.1 q hRt (nar_ret (by first | exact Or.inl (hps43.1) | omega)) (ax_d X (show cdA 71 49 = some (.ireturn, 1, 0, 0, 0) from rfl)) (Nat.zero_le _) (Nat.zero_le _) ⟨_, rfl, Is43, Gs43, JBYW_s43, JTKS_s43, e44, rfl, hrs43, ⟨by have := clc_e (cld_c hCL); omega, by first | exact oq_4407eb3c ws43_1 ws43_2 ws10_1 ws10_2 p1 | omega, by first | exact oq_4407eb3c ws43_2 ws43_4 ws10_2 ws10_4 p2 | omega, hCL⟩⟩
  ·
    refine z_aload_n X (x := A 19) rfl (List.Mem.tail _ (List.Mem.head _)) (s_getR X 19 rfl (c518_ok rfl) rfl rfl ?_)
    obtain ⟨tx80, q80, hR80, hS80⟩ := GT (80, [106, 111, 105, 110]) (by decide)
    refine w_ldcK X (show vk_R (kOwn k) 80 tx80 q80 (kS0 k) by rw [E.2.1, X.2.1.2.1]; exact hR80) (show decode (kCc k) 18 = .ok (.ldc 80, 2) by rw [X.2.1.1]; decide +kernel) (zcV_i2 X E 1 (As := [.ref q80]) (st := []) rfl rfl rfl rfl (c10_says3 G SF hS80 (by decide) Is10 JBYW_s10 JTKS_s10 (by first | exact oq_e7b9ecab ws10_2 ws10_4 p2 | omega)) rfl (Nat.le_of_ble_eq_true rfl) (fun s46 e47 Is46 Fs46 JBYW_s46 JTKS_s46 hrs46 hps46 => ?_))
    have Gs46 := fm_tq Gs10 Fs46 rfl rfl
    have JBYW_s46 : BYW B N s46 := BYW_fm Fs46 (by decide) JBYW_s10
    have JTKS_s46 : TKS B N s46 := TKS_fm Fs46 (by decide) JTKS_s10
    have ws46_2 : iI s46 2 = iI s10 2 := fm_iq Fs46 rfl
    have ws46_1 : iI s46 1 = iI s10 1 := fm_iq Fs46 rfl
    have ws46_4 : iI s46 4 = iI s10 4 := fm_iq Fs46 rfl
    have ws46_5 : iI s46 5 = iI s10 5 := fm_iq Fs46 rfl
    have ws46_6 : iI s46 6 = iI s10 6 := fm_iq Fs46 rfl
    have ws46_19 : iI s46 19 = iI s10 19 := fm_iq Fs46 rfl
    have ws46_16 : iI s46 16 = iI s10 16 := fm_iq Fs46 rfl
    have ws46_7 : iI s46 7 = iI s10 7 := fm_iq Fs46 rfl
    have ws46_17 : iI s46 17 = iI s10 17 := fm_iq Fs46 rfl
    have aws46_19 : SAM 19 s s46 := sam_ts aws10_19 (sam_fm Fs46 (by decide))
    have aws46_18 : SAM 18 s s46 := sam_ts aws10_18 (sam_fm Fs46 (by decide))
    have hws46 : (e47 = 1 ∧ whV B N (iI s 4) = 208022) ∨ (e47 = 0 ∧ whV B N (iI s 4) ≠ 208022) := by have h := hps46; rw [show iI s10 4 = iI s 4 by first | exact ws10_4 | (clear hps46 hps10; omega) | (clear hps10; omega) | omega, show whL [106, 111, 105, 110] 0 = 208022 by decide] at h; exact h
    refine z_if_ne X (t := 35) rfl rfl hrs46 (fun g48 => ?_) (fun g48 => ?_)
    ·
      refine z_load_n X (x := x) rfl (List.Mem.tail _ (List.Mem.tail _ (List.Mem.head _))) (z_bipush X rfl (z_icmp_lt X (t := 50) rfl rfl ⟨by first | exact oq_fa4e5087 p0.1 | omega, by first | exact oq_d3f5d874 p0.2 | omega⟩ (by decide) (fun g49 => ?_) (fun g49 => ?_)))
      ·
        have hwl : whV B N (iI s 4) = 247162 ∨ whV B N (iI s 4) = 208022 := by first | exact Or.inr (oq_9b5300ea g48 hws46) | (clear g48 hps46 hps10; omega) | (clear hps46 hps10; omega) | omega
        have hk3 : iI s 5 = -3 := Classical.byContradiction (fun q => by have := hwd.2 q; omega)
        have ha3 := (hwd.1 hk3).1
        have hg3 := (hwd.1 hk3).2
        have hsk := sk_le (B := B) (N := N) (p := wdE B N (iI s 4))
        refine z_aload_n X (x := A 19) rfl (List.Mem.tail _ (List.Mem.head _)) (s_getR X 19 rfl (c518_ok rfl) rfl rfl (zcV_v2 X E 1 (As := []) (st := []) rfl rfl rfl rfl (c10_step3 G Is46 JBYW_s46 (by first | exact oq_4407eb3c ws46_1 ws46_2 ws10_1 ws10_2 p1 | omega)) rfl (Nat.le_of_ble_eq_true rfl) (fun s50 Is50 Fs50 JBYW_s50 JTKS_s50 hps50 => ?_)))
        have Gs50 := fm_tq Gs46 Fs50 rfl rfl
        have JBYW_s50 : BYW B N s50 := BYW_fm Fs50 (by decide) JBYW_s46
        have b52 := bi_2 Is50
        have ws50_1 : iI s50 1 = iI s46 1 := fm_iq Fs50 rfl
        have b53 := bi_4 Is50
        have b54 := bi_5 Is50
        have b55 := bi_6 Is50
        have ws50_19 : iI s50 19 = iI s46 19 := fm_iq Fs50 rfl
        have ws50_16 : iI s50 16 = iI s46 16 := fm_iq Fs50 rfl
        have ws50_7 : iI s50 7 = iI s46 7 := fm_iq Fs50 rfl
        have ws50_17 : iI s50 17 = iI s46 17 := fm_iq Fs50 rfl
        have aws50_19 : SAM 19 s s50 := sam_ts aws46_19 (sam_fm Fs50 (by decide))
        have aws50_18 : SAM 18 s s50 := sam_ts aws46_18 (sam_fm Fs50 (by decide))
        have hs1 : iI s50 4 = sk B N (wdE B N (iI s 4)) := by rw [hps50.2.2.1, show iI s46 2 = wdE B N (iI s 4) by first | exact oq_2e8e3af2 ha3 ws46_2 ws10_2 | (clear g48 hps46 hps10; omega) | (clear hps46 hps10; omega) | omega]
        refine z_load_n X (x := e11) rfl (List.Mem.head _) (z_if_eq X (t := 71) rfl rfl hrs10 (fun g56 => ?_) (fun g56 => ?_))
        ·
          refine z_aload_n X (x := A 19) rfl (List.Mem.tail _ (List.Mem.head _)) (z_callV X 19 (rm := (rkR (32 + 3 * (7) + 2))) (As := []) (st := []) rfl rfl (by decide) rfl (by rw [E.1, E.2.1, E.2.2.1]; exact (c7_eithr3 G (B := B) (N := N) SF GT 7).2.2 Is50 JBYW_s50 JTKS_s50 (by first | exact hps50.1 | omega) (by first | exact hps50.2.1 | omega) (by first | exact oq_f6b99f75 ws50_19 ws46_19 ws10_19 b6.1 | omega) (by first | exact oq_e2534179 ws50_16 hps50.2.2.2 ws46_16 ws46_2 ws10_16 ws10_2 p4 p2 | omega)) ⟨by rw [E.2.2.2]; exact (show (12 + (32 + 3 * (7) + 2)) + 1 ≤ 68 from oq_2af1bc43), by rw [E.2.2.2]; exact (show 8 + (2 + 11) + (500 + 45 * (32 + 3 * (7) + 2)) ≤ 2996 from oq_3d00aaab), by rw [E.2.2.2]; exact Nat.le_refl 0, by rw [E.2.2.2]; exact Nat.le_refl 0⟩ (Nat.le_of_ble_eq_true rfl) (fun vv s57 hq => ?_) (fun ee s57 hq => ?_))
          rotate_left
          · obtain ⟨Is57, Fs57, JBYW_s57, JTKS_s57, e58, hv, hrs57, hps57⟩ := hq; cases hv
          obtain ⟨Is57, Fs57, JBYW_s57, JTKS_s57, e58, hv, hrs57, hps57⟩ := hq
          cases hv
          have Gs57 := fm_tq Gs50 Fs57 rfl rfl
          have JBYW_s57 : BYW B N s57 := BYW_fm Fs57 (by decide) JBYW_s50
          have b59 := bi_2 Is57
          have ws57_1 : iI s57 1 = iI s50 1 := fm_iq Fs57 rfl
          have b60 := bi_4 Is57
          have b61 := bi_5 Is57
          have b62 := bi_6 Is57
          have b63 := bi_19 Is57
          have b64 := bi_16 Is57
          have b65 := bi_7 Is57
          have ws57_17 : iI s57 17 = iI s50 17 := fm_iq Fs57 rfl
          have aws57_19 : SAM 19 s s57 := sam_ts aws50_19 (sam_fm Fs57 (by decide))
          show WS k 75 [(2, .int (Int32.ofInt e11)), (0, .ref (A 19)), (1, .int (Int32.ofInt x))] [.int (Int32.ofInt e58)] (Wd A dT s57) 0 0
          refine z_if_ne X (t := 80) rfl rfl hrs57 (fun g66 => ?_) (fun g66 => ?_)
          ·
            refine z_aload_n X (x := A 19) rfl (List.Mem.tail _ (List.Mem.head _)) (z_bipush X rfl (zcV_i2 X E 19 (As := [.int (Int32.ofInt 59)]) (st := []) rfl rfl rfl rfl (c7_pass3 G Is57 JBYW_s57 JTKS_s57 (by first | exact ⟨by decide, by decide⟩ | omega) (by first | exact Or.inr (by decide) | omega) (by first | exact Or.inl (by decide) | omega) (by first | exact hps57.2.1 | omega) (by first | exact hps57.2.2.1 | omega)) rfl (Nat.le_of_ble_eq_true rfl) (fun s67 e68 Is67 Fs67 JBYW_s67 JTKS_s67 hrs67 hps67 => ?_)))
            have hps67p := And.intro hps67.2.1 (And.intro hps67.2.2.1 (hps67.2.2.2))
            have Gs67 := fm_tq Gs57 Fs67 rfl rfl
            have JBYW_s67 : BYW B N s67 := BYW_fm Fs67 (by decide) JBYW_s57
            have b69 := bi_2 Is67
            have ws67_1 : iI s67 1 = iI s57 1 := fm_iq Fs67 rfl
            have b70 := bi_4 Is67
            have b71 := bi_5 Is67
            have b72 := bi_6 Is67
            have ws67_19 : iI s67 19 = iI s57 19 := fm_iq Fs67 rfl
            have ws67_16 : iI s67 16 = iI s57 16 := fm_iq Fs67 rfl
            have b73 := bi_7 Is67
            have ws67_17 : iI s67 17 = iI s57 17 := fm_iq Fs67 rfl
            have aws67_19 : SAM 19 s s67 := sam_ts aws57_19 (sam_fm Fs67 (by decide))
            have hpg : e68 ≠ 0 → iI s57 4 < iI s67 4 ∧ iI s67 4 ≤ N := fun h => pss_gt hps67.2.2.2 h
            refine z_if_ne X (t := 91) rfl rfl hrs67 (fun g74 => ?_) (fun g74 => ?_)
            ·
              refine z_aload_n X (x := A 19) rfl (List.Mem.tail _ (List.Mem.head _)) (s_getR X 19 rfl (c518_ok rfl) rfl rfl (z_load_n X (x := x) rfl (List.Mem.tail _ (List.Mem.tail _ (List.Mem.head _))) (z_aload_n X (x := A 19) rfl (List.Mem.tail _ (List.Mem.head _)) (z_getI X 19 rfl (c518_ok rfl) rfl rfl ?_))))
              have b75 := bi_16 Is67
              refine z_ast X 23 rfl (c518_ok rfl) rfl (by first | exact p0.1 | omega) (show x < 8 by first | exact g49 | omega) (cbig_ok rfl) (wd_gen (fun s76 hs76 => ?_))
              have Is76 : Bd s76 := eqB hs76 (bd_C Is67 (show (0 : Int) ≤ (iI s67 16) ∧ (iI s67 16) ≤ 200 by first | exact ⟨b75.1, b75.2⟩ | omega) (rng_to _))
              have Fs76 := eqF hs76 (fm_C Gs67 (inl_ok (a := 19) rfl))
              have ws76_2 : iI s76 2 = iI s67 2 := eqI hs76 rfl
              have ws76_1 : iI s76 1 = iI s67 1 := eqI hs76 rfl
              have ws76_4 : iI s76 4 = iI s67 4 := eqI hs76 rfl
              have ws76_5 : iI s76 5 = iI s67 5 := eqI hs76 rfl
              have ws76_6 : iI s76 6 = iI s67 6 := eqI hs76 rfl
              have ws76_19 : iI s76 19 = iI s67 19 := eqI hs76 rfl
              have ws76_16 : iI s76 16 = iI s67 16 := eqI hs76 rfl
              have ws76_7 : iI s76 7 = iI s67 7 := eqI hs76 rfl
              have ws76_17 : iI s76 17 = iI s67 17 := eqI hs76 rfl
              have aws76_19 : UPD 19 (x) (iI s67 16) s s76 := by rw [hs76]; exact upd_put aws67_19 (rng_to _)
              have fs76 : Fm [] [19] s67 s76 := by rw [hs76]; exact fm_C (fm_rf _ _ _) (show 19 ∈ _ by decide)
              have JBYW_s76 : BYW B N s76 := BYW_fm fs76 (by decide) JBYW_s67
              have JTKS_s76 : TKS B N s76 := TKS_fm fs76 (by decide) JTKS_s67
              refine z_load_n X (x := e11) rfl (List.Mem.head _) (z_if_eq X (t := 113) rfl rfl hrs10 (fun g77 => ?_) (fun g77 => ?_))
              ·
                refine z_aload_n X (x := A 19) rfl (List.Mem.tail _ (List.Mem.head _)) (w_dup X.1 (ax_d X (show cdA 71 114 = some (.dup, 1, 0, 0, 0) from rfl)) rfl (z_getI X 19 rfl (c518_ok rfl) rfl rfl ?_))
                have b78 := bi_18 Is76
                refine z_const X rfl (z_load_n X (x := x) rfl (List.Mem.tail _ (List.Mem.tail _ (List.Mem.head _))) (z_bshl X rfl (z_any (fun y79 hy79 => ?_))))
                refine z_bor X rfl (z_any (fun y80 hy80 => ?_))
                refine s_putI X 19 rfl (c518_ok rfl) rfl rfl (by decide) rfl rfl rfl (wd_gen (fun s81 hs81 => ?_))
                have Is81 : Bd s81 := eqB hs81 (bd_I Is76 (show ((-2147483648) : Int) ≤ y80 ∧ y80 ≤ 2147483647 by first | exact ⟨hy80.1, hy80.2⟩ | omega) hy80)
                have Fs81 := eqF hs81 (fm_I Fs76 (inl_ok (a := 18) rfl))
                have vs81 : iI s81 18 = y80 := eqI hs81 (iI_u hy80)
                have ws81_2 : iI s81 2 = iI s76 2 := eqI hs81 rfl
                have ws81_1 : iI s81 1 = iI s76 1 := eqI hs81 rfl
                have ws81_4 : iI s81 4 = iI s76 4 := eqI hs81 rfl
                have ws81_5 : iI s81 5 = iI s76 5 := eqI hs81 rfl
                have ws81_6 : iI s81 6 = iI s76 6 := eqI hs81 rfl
                have ws81_19 : iI s81 19 = iI s76 19 := eqI hs81 rfl
                have ws81_16 : iI s81 16 = iI s76 16 := eqI hs81 rfl
                have ws81_7 : iI s81 7 = iI s76 7 := eqI hs81 rfl
                have ws81_17 : iI s81 17 = iI s76 17 := eqI hs81 rfl
                have aws81_19 : UPD 19 (x) (iI s67 16) s s81 := by rw [hs81]; exact aws76_19
                have fs81 : Fm [18] [] s76 s81 := by rw [hs81]; exact fm_I (fm_rf _ _ _) (show 18 ∈ _ by decide)
                have JBYW_s81 : BYW B N s81 := BYW_fm fs81 (by decide) JBYW_s76
                have JTKS_s81 : TKS B N s81 := TKS_fm fs81 (by decide) JTKS_s76
                refine z_const X rfl ?_
                have hCL : CLD B N x s s81 1 := cld_of (a := s50) (b := s57) (c := s67) (Or.inr ⟨by first | exact oq_feebb640 g77 hwl hws10 | (clear g74 hps67 g66 hps57 g48 hps46 hps10; omega) | (clear hps67 g66 hps57 g48 hps46 hps10; omega) | omega, rfl⟩) (by first | exact g49 | (clear g74 hps67 g66 hps57 g48 hps46 hps10; omega) | (clear hps67 g66 hps57 g48 hps46 hps10; omega) | omega) (DL_sam (by first | exact oq_878618b1 ws50_16 ws46_16 ws10_16 | (clear g74 hps67 g66 hps57 g48 hps46 hps10; omega) | (clear hps67 g66 hps57 g48 hps46 hps10; omega) | omega) aws50_18) (by have h := hps57.2.2.2; rw [show iI s50 4 = sk B N (wdE B N (iI s 4)) by first | exact hs1 | (clear g74 hps67 g66 hps57 g48 hps46 hps10; omega) | (clear hps67 g66 hps57 g48 hps46 hps10; omega) | omega, show iI s50 19 = 0 by first | exact oq_0a89d25b ws50_19 ws46_19 ws10_19 b6.1 p3 | (clear g74 hps67 g66 hps57 g48 hps46 hps10; omega) | (clear hps67 g66 hps57 g48 hps46 hps10; omega) | omega] at h; exact h) (by first | exact g66 | (clear g74 hps67 g66 hps57 g48 hps46 hps10; omega) | (clear hps67 g66 hps57 g48 hps46 hps10; omega) | omega) (by have h := hps67.2.2.2; rw [show e68 = 1 by first | exact oq_46b3e003 g74 hps67.1 | (clear g74 hps67 g66 hps57 g48 hps46 hps10; omega) | (clear hps67 g66 hps57 g48 hps46 hps10; omega) | omega] at h; exact h) (by first | exact oq_1aa5be9e ws81_4 ws76_4 | (clear g74 hps67 g66 hps57 g48 hps46 hps10; omega) | (clear hps67 g66 hps57 g48 hps46 hps10; omega) | omega) ((DL_sam (s := s67) (t := s81) (by first | exact oq_1aa5be9e ws81_16 ws76_16 | (clear g74 hps67 g66 hps57 g48 hps46 hps10; omega) | (clear hps67 g66 hps57 g48 hps46 hps10; omega) | omega) (fun j => by rw [hs81, hs76]; exact iC_a (by decide))).trans (DL_fm Fs67 (by decide) (by decide))) (by rw [show iI s81 16 = iI s67 16 by first | exact oq_1aa5be9e ws81_16 ws76_16 | (clear g74 hps67 g66 hps57 g48 hps46 hps10; omega) | (clear hps67 g66 hps57 g48 hps46 hps10; omega) | omega]; exact aws81_19) (Or.inr ⟨by decide, by first | exact oq_cc03667a ws81_17 ws76_17 ws67_17 ws57_17 ws50_17 ws46_17 ws10_17 | (clear g74 hps67 g66 hps57 g48 hps46 hps10; omega) | (clear hps67 g66 hps57 g48 hps46 hps10; omega) | omega⟩)
                exact w_iret X.1 q hRt (nar_ret (by first | exact Or.inr (by decide) | omega)) (ax_d X (show cdA 71 126 = some (.ireturn, 1, 0, 0, 0) from rfl)) (Nat.zero_le _) (Nat.zero_le _) ⟨_, rfl, Is81, Fs81, JBYW_s81, JTKS_s81, 1, rfl, (by decide), ⟨by have := clc_e (cld_c hCL); omega, by first | exact oq_4407eb3c ws81_1 ws81_2 ws76_1 ws76_2 hps67.2.1 | omega, by first | exact oq_4407eb3c ws81_2 ws81_4 ws76_2 ws76_4 hps67.2.2.1 | omega, hCL⟩⟩
              ·
                exfalso
                omega
            ·
              refine z_const X rfl ?_
              have hCL : CLD B N x s s67 0 := cld_no (clc_of (c := s67) (Or.inr ⟨by first | exact oq_feebb640 g56 hwl hws10 | (clear hps67 g66 hps57 g48 hps46 hps10; omega) | (clear g66 hps57 g48 hps46 hps10; omega) | omega, rfl⟩) (by first | exact g49 | (clear hps67 g66 hps57 g48 hps46 hps10; omega) | (clear g66 hps57 g48 hps46 hps10; omega) | omega) (by have h := hps57.2.2.2; rw [show iI s50 4 = sk B N (wdE B N (iI s 4)) by first | exact hs1 | (clear hps67 g66 hps57 g48 hps46 hps10; omega) | (clear g66 hps57 g48 hps46 hps10; omega) | omega, show iI s50 19 = 0 by first | exact oq_0a89d25b ws50_19 ws46_19 ws10_19 b6.1 p3 | (clear hps67 g66 hps57 g48 hps46 hps10; omega) | (clear g66 hps57 g48 hps46 hps10; omega) | omega] at h; exact h) (Or.inr ⟨by first | exact g66 | (clear hps67 g66 hps57 g48 hps46 hps10; omega) | (clear g66 hps57 g48 hps46 hps10; omega) | omega, (by have h := hps67.2.2.2; rw [show e68 = 0 by first | exact g74 | (clear hps67 g66 hps57 g48 hps46 hps10; omega) | (clear g66 hps57 g48 hps46 hps10; omega) | omega] at h; exact h), by first | exact rfl | (clear hps67 g66 hps57 g48 hps46 hps10; omega) | (clear g66 hps57 g48 hps46 hps10; omega) | omega, by first | exact rfl | (clear hps67 g66 hps57 g48 hps46 hps10; omega) | (clear g66 hps57 g48 hps46 hps10; omega) | omega⟩))
              exact w_iret X.1 q hRt (nar_ret (by first | exact Or.inl (by decide) | omega)) (ax_d X (show cdA 71 90 = some (.ireturn, 1, 0, 0, 0) from rfl)) (Nat.zero_le _) (Nat.zero_le _) ⟨_, rfl, Is67, Gs67, JBYW_s67, JTKS_s67, 0, rfl, (by decide), ⟨by have := clc_e (cld_c hCL); omega, by first | exact hps67.2.1 | omega, by first | exact hps67.2.2.1 | omega, hCL⟩⟩
          ·
            refine z_const X rfl ?_
            have hCL : CLD B N x s s57 0 := cld_no (clc_of (c := s57) (Or.inr ⟨by first | exact oq_feebb640 g56 hwl hws10 | (clear hps57 g48 hps46 hps10; omega) | (clear g48 hps46 hps10; omega) | omega, rfl⟩) (by first | exact g49 | (clear hps57 g48 hps46 hps10; omega) | (clear g48 hps46 hps10; omega) | omega) (by have h := hps57.2.2.2; rw [show iI s50 4 = sk B N (wdE B N (iI s 4)) by first | exact hs1 | (clear hps57 g48 hps46 hps10; omega) | (clear g48 hps46 hps10; omega) | omega, show iI s50 19 = 0 by first | exact oq_0a89d25b ws50_19 ws46_19 ws10_19 b6.1 p3 | (clear hps57 g48 hps46 hps10; omega) | (clear g48 hps46 hps10; omega) | omega] at h; exact h) (Or.inl ⟨by first | exact g66 | (clear hps57 g48 hps46 hps10; omega) | (clear g48 hps46 hps10; omega) | omega, rfl, by first | exact rfl | (clear hps57 g48 hps46 hps10; omega) | (clear g48 hps46 hps10; omega) | omega⟩))
            exact w_iret X.1 q hRt (nar_ret (by first | exact Or.inl (by decide) | omega)) (ax_d X (show cdA 71 79 = some (.ireturn, 1, 0, 0, 0) from rfl)) (Nat.zero_le _) (Nat.zero_le _) ⟨_, rfl, Is57, Gs57, JBYW_s57, JTKS_s57, 0, rfl, (by decide), ⟨by have := clc_e (cld_c hCL); omega, by first | exact hps57.2.1 | omega, by first | exact hps57.2.2.1 | omega, hCL⟩⟩
        ·
          exfalso
          omega
      ·
        refine z_aload_n X (x := A 19) rfl (List.Mem.tail _ (List.Mem.head _)) (s_getR X 19 rfl (c518_ok rfl) rfl rfl (z_const X rfl (zcV_i0 X E 1 (As := [.int (Int32.ofInt 3)]) (st := []) rfl rfl rfl rfl (c10_refuse3 G Is46 (by first | exact ⟨by decide, by decide⟩ | omega)) rfl (Nat.le_of_ble_eq_true rfl) (fun s82 e83 Is82 Fs82 hrs82 hps82 => ?_))))
        have Gs82 := fm_tq Gs46 Fs82 rfl rfl
        have JBYW_s82 : BYW B N s82 := BYW_fm Fs82 (by decide) JBYW_s46
        have JTKS_s82 : TKS B N s82 := TKS_fm Fs82 (by decide) JTKS_s46
        have ws82_2 : iI s82 2 = iI s46 2 := fm_iq Fs82 rfl
        have ws82_1 : iI s82 1 = iI s46 1 := fm_iq Fs82 rfl
        have ws82_4 : iI s82 4 = iI s46 4 := fm_iq Fs82 rfl
        have ws82_5 : iI s82 5 = iI s46 5 := fm_iq Fs82 rfl
        have ws82_6 : iI s82 6 = iI s46 6 := fm_iq Fs82 rfl
        have ws82_19 : iI s82 19 = iI s46 19 := fm_iq Fs82 rfl
        have ws82_16 : iI s82 16 = iI s46 16 := fm_iq Fs82 rfl
        have b84 := bi_7 Is82
        have ws82_17 : iI s82 17 = iI s46 17 := fm_iq Fs82 rfl
        have aws82_19 : SAM 19 s s82 := sam_ts aws46_19 (sam_fm Fs82 (by decide))
        have aws82_18 : SAM 18 s s82 := sam_ts aws46_18 (sam_fm Fs82 (by decide))
        have hCL : CLD B N x s s82 e83 := by rw [show e83 = 0 by first | exact hps82.1 | (clear g48 hps46 hps10; omega) | (clear hps46 hps10; omega) | omega]; exact cld_no (clc_3 (by first | exact Or.inr (oq_9b5300ea g48 hws46) | (clear g48 hps46 hps10; omega) | (clear hps46 hps10; omega) | omega) (by first | exact g49 | (clear g48 hps46 hps10; omega) | (clear hps46 hps10; omega) | omega) (by first | exact hps82.2 | (clear g48 hps46 hps10; omega) | (clear hps46 hps10; omega) | omega))
        exact w_iret X.1 q hRt (nar_ret (by first | exact Or.inl (hps82.1) | omega)) (ax_d X (show cdA 71 49 = some (.ireturn, 1, 0, 0, 0) from rfl)) (Nat.zero_le _) (Nat.zero_le _) ⟨_, rfl, Is82, Gs82, JBYW_s82, JTKS_s82, e83, rfl, hrs82, ⟨by have := clc_e (cld_c hCL); omega, by first | exact oq_72ebe5a4 ws82_1 ws82_2 ws46_1 ws46_2 ws10_1 ws10_2 p1 | omega, by first | exact oq_7f1a346e ws82_4 ws82_2 ws46_4 ws46_2 ws10_4 ws10_2 p2 | omega, hCL⟩⟩
    ·
      refine z_aload_n X (x := A 19) rfl (List.Mem.tail _ (List.Mem.head _)) (s_getR X 19 rfl (c518_ok rfl) rfl rfl (z_const X rfl (zcV_i0 X E 1 (As := [.int (Int32.ofInt 1)]) (st := []) rfl rfl rfl rfl (c10_refuse3 G Is46 (by first | exact ⟨by decide, by decide⟩ | omega)) rfl (Nat.le_of_ble_eq_true rfl) (fun s85 e86 Is85 Fs85 hrs85 hps85 => ?_))))
      have Gs85 := fm_tq Gs46 Fs85 rfl rfl
      have JBYW_s85 : BYW B N s85 := BYW_fm Fs85 (by decide) JBYW_s46
      have JTKS_s85 : TKS B N s85 := TKS_fm Fs85 (by decide) JTKS_s46
      have ws85_2 : iI s85 2 = iI s46 2 := fm_iq Fs85 rfl
      have ws85_1 : iI s85 1 = iI s46 1 := fm_iq Fs85 rfl
      have ws85_4 : iI s85 4 = iI s46 4 := fm_iq Fs85 rfl
      have ws85_5 : iI s85 5 = iI s46 5 := fm_iq Fs85 rfl
      have ws85_6 : iI s85 6 = iI s46 6 := fm_iq Fs85 rfl
      have ws85_19 : iI s85 19 = iI s46 19 := fm_iq Fs85 rfl
      have ws85_16 : iI s85 16 = iI s46 16 := fm_iq Fs85 rfl
      have b87 := bi_7 Is85
      have ws85_17 : iI s85 17 = iI s46 17 := fm_iq Fs85 rfl
      have aws85_19 : SAM 19 s s85 := sam_ts aws46_19 (sam_fm Fs85 (by decide))
      have aws85_18 : SAM 18 s s85 := sam_ts aws46_18 (sam_fm Fs85 (by decide))
      have hCL : CLD B N x s s85 e86 := by rw [show e86 = 0 by first | exact hps85.1 | (clear hps46 hps10; omega) | (clear hps10; omega) | omega]; exact cld_no (clc_1 (by first | exact oq_a9f6c510 g12 hws10 | (clear hps46 hps10; omega) | (clear hps10; omega) | omega) (by first | exact oq_2ae0af84 g48 hws46 | (clear hps46 hps10; omega) | (clear hps10; omega) | omega) (by first | exact hps85.2 | (clear hps46 hps10; omega) | (clear hps10; omega) | omega))
      exact w_iret X.1 q hRt (nar_ret (by first | exact Or.inl (hps85.1) | omega)) (ax_d X (show cdA 71 34 = some (.ireturn, 1, 0, 0, 0) from rfl)) (Nat.zero_le _) (Nat.zero_le _) ⟨_, rfl, Is85, Gs85, JBYW_s85, JTKS_s85, e86, rfl, hrs85, ⟨by have := clc_e (cld_c hCL); omega, by first | exact oq_72ebe5a4 ws85_1 ws85_2 ws46_1 ws46_2 ws10_1 ws10_2 p1 | omega, by first | exact oq_7f1a346e ws85_4 ws85_2 ws46_4 ws46_2 ws10_4 ws10_2 p2 | omega, hCL⟩⟩
theorem c7_adopt364 (G : GX l s0 D tys a0 dT) (I : Bd s) {x : Int} (p0 : 0 ≤ x ∧ x ≤ 8) {k : kx_T} (X : AX k 69 dT) (E : kL k = l ∧ kS0 k = s0 ∧ kD k = D ∧ kR k = rmN 69) (hRt : (kMe k).sig.returnType = rtA 69) {KK : mb_O → va_W → Prop} {mc ms : Nat} (q : kx_end k KK mc ms) (hK : ∀ t : PS, Bd t → Fm [12, 13, 14, 15] [] s t → iI t 12 = x → iI t 13 = iI s 17 → (iI t 15 = 0 → iI t 13 ≠ -1 → NCC (cdL t (iI t 13))) → KK (.inl none) (Wd A dT t)) : WS k 36 [(0, .ref (A 19)), (1, .int (Int32.ofInt x))] [] (Wd A dT s) 0 0 := by
  skip
  skip
  have F : Fm [12, 13, 14, 15] [] s s := fm_rf _ _ s
  have b1 := bi_12 I
  have b2 := bi_13 I
  have b3 := bi_15 I
  have b4 := bi_17 I
  have L80 : ∀ (n : Nat) (t : PS) (c : Int), Bd t → Fm [12, 13, 14, 15] [] s t → (NFQ s (bgV s (iI s 17)) c t) → ((0 ≤ c ∧ c ≤ 200) ∧ iI t 12 = x ∧ 0 ≤ iI t 13 ∧ iI t 13 = iI s 17 ∧ 0 ≤ bgV s (iI s 17)) → (200 - c : Int).toNat < n → (∀ (t' : PS) (c' : Int), Bd t' → Fm [12, 13, 14, 15] [] s t' → (NFQ s (bgV s (iI s 17)) c' t') → (iI t' 12 = x ∧ 0 ≤ iI t' 13 ∧ iI t' 13 = iI s 17 ∧ 0 ≤ bgV s (iI s 17) ∧ iC t' 17 (iI t' 13).toNat ≤ c') → WS k 138 [(0, .ref (A 19)), (4, .int (Int32.ofInt c'))] [] (Wd A dT t') 0 0) → WS k 80 [(0, .ref (A 19)), (4, .int (Int32.ofInt c))] [] (Wd A dT t) 0 0 := by
    intro n
    induction n with
    | zero =>
      intro t c I F hq hi hm kx
      exact absurd hm (Nat.not_lt_zero _)
    | succ n ih =>
      intro t c I F hq hi hm kx
      have b1001 := bi_12 I
      have b1002 := bi_13 I
      have b1003 := bi_15 I
      have b1004 := bi_17 I
      refine z_load X (x := c) rfl (List.Mem.tail _ (List.Mem.head _)) (z_aload_n X (x := A 19) rfl (List.Mem.head _) (s_getR X 19 rfl (c518_ok rfl) rfl rfl (z_aload_n X (x := A 19) rfl (List.Mem.head _) (z_getI X 19 rfl (c518_ok rfl) rfl rfl ?_))))
      have b1005 := bi_13 I
      refine z_ald X 21 rfl (c518_ok rfl) rfl (by first | exact hi.2.2.1 | omega) (show (iI t 13) < 8 by first | exact oq_aaea290e b1005.2 | omega) (cbig_ok rfl) ?_
      have b1006 := bc_17 I (show ((iI t 13)).toNat < 8 by first | exact oq_c19a3aae b1005.2 | omega)
      refine z_icmp_ge X (t := 138) rfl rfl ⟨by first | exact oq_fa4e5087 hi.1.1 | omega, by first | exact oq_52af2b96 hi.1.2 | omega⟩ (rng_to _) (fun g1007 => ?_) (fun g1007 => ?_)
      ·
        refine WS_pq [0, 1] (lv' := [(0, .ref (A 19)), (4, .int (Int32.ofInt c))]) rfl ?_
        exact kx _ c I F hq (by first | exact ⟨hi.2.1, hi.2.2.1, hi.2.2.2.1, hi.2.2.2.2, g1007⟩ | omega)
      ·
        refine z_aload_n X (x := A 19) rfl (List.Mem.head _) (w_dup X.1 (ax_d X (show cdA 69 95 = some (.dup, 1, 0, 0, 0) from rfl)) rfl (z_getI X 19 rfl (c518_ok rfl) rfl rfl ?_))
        have b1008 := bi_15 I
        refine z_aload_n X (x := A 19) rfl (List.Mem.head _) (s_getR X 19 rfl (c518_ok rfl) rfl rfl (z_load X (x := c) rfl (List.Mem.tail _ (List.Mem.head _)) (z_ald X 20 rfl (c518_ok rfl) rfl (by first | exact hi.1.1 | omega) (show c < 200 by first | exact oq_6fca3d72 g1007 b1006.2 | omega) (cbig_ok rfl) ?_)))
        have b1009 := bc_16 I (show (c).toNat < 200 by first | exact oq_b70289d5 g1007 b1006.2 | omega)
        refine z_bipush X rfl (z_icmp_eq X (t := 123) rfl rfl (rng_to _) (by decide) (fun g1010 => ?_) (fun g1010 => ?_))
        ·
          refine z_const X rfl (z_goto X (t := 128) rfl rfl (w_ior X.1 (ax_d X (show cdA 69 128 = some (.ior, 1, 0, 0, 0) from rfl)) (z_anyV (fun y1011 hy1011 ey1011 => ?_))))
          have hor := or_b (by first | exact And.intro (b1008.1) (b1008.2) | omega) (by first | exact And.intro (oq_0db09374) (oq_a200df08) | omega) hy1011 ey1011
          have hcs : iC t 16 (c : Int).toNat = iC s 16 (c : Int).toNat := fm_c F List.not_mem_nil
          refine s_putI X 19 rfl (c518_ok rfl) rfl rfl (by decide) (nar_ret (by first | exact Or.inr (oq_d467785f hor.2 hor.1.2 hor.1.1) | omega)) (fit_z (by first | exact Or.inr (oq_d467785f hor.2 hor.1.2 hor.1.1) | omega)) rfl (wd_gen (fun s1012 hs1012 => ?_))
          have Is1012 : Bd s1012 := eqB hs1012 (bd_I I (show (0 : Int) ≤ y1011 ∧ y1011 ≤ 1 by first | exact And.intro (hor.1.1) (hor.1.2) | omega) hy1011)
          have Fs1012 := eqF hs1012 (fm_I F (inl_ok (a := 15) rfl))
          have vs1012 : iI s1012 15 = y1011 := eqI hs1012 (iI_u hy1011)
          have ws1012_12 : iI s1012 12 = iI t 12 := eqI hs1012 rfl
          have ws1012_13 : iI s1012 13 = iI t 13 := eqI hs1012 rfl
          have ws1012_17 : iI s1012 17 = iI t 17 := eqI hs1012 rfl
          refine z_inc X (x := c) (lv' := [(4, .int (Int32.ofInt (c + 1))), (0, .ref (A 19))]) rfl (by decide) (List.Mem.tail _ (List.Mem.head _)) (fun _ h => h) (z_goto X (t := 80) rfl rfl (WS_pq [1, 0] (lv' := [(0, .ref (A 19)), (4, .int (Int32.ofInt (c + 1)))]) rfl ?_))
          exact ih _ (c + 1) Is1012 Fs1012 (nfq_up hq (by first | exact hi.1.1 | omega) (fun z => by have w := hor.2 z; omega) (by first | exact vs1012 | omega)) (by first | exact ⟨And.intro (oq_54f49eb5 hi.1.1) (oq_228270fa g1007 b1006.2), oq_1aa5be9e ws1012_12 hi.2.1, oq_e4757433 ws1012_13 hi.2.2.1, oq_1aa5be9e ws1012_13 hi.2.2.2.1, hi.2.2.2.2⟩ | omega) (by first | exact qk_me hm (by decide) (oq_b0a4f3e2 g1007 b1006.2) | exact oq_7cc0e6da g1007 b1006.2 hm | omega) kx
        ·
          refine z_aload_n X (x := A 19) rfl (List.Mem.head _) (s_getR X 19 rfl (c518_ok rfl) rfl rfl (z_load X (x := c) rfl (List.Mem.tail _ (List.Mem.head _)) (z_ald X 20 rfl (c518_ok rfl) rfl (by first | exact hi.1.1 | omega) (show c < 200 by first | exact oq_6fca3d72 g1007 b1006.2 | omega) (cbig_ok rfl) ?_)))
          have b1013 := bc_16 I (show (c).toNat < 200 by first | exact oq_b70289d5 g1007 b1006.2 | omega)
          refine z_bipush X rfl (z_icmp_ne X (t := 127) rfl rfl (rng_to _) (by decide) (fun g1014 => ?_) (fun g1014 => ?_))
          ·
            refine z_const X rfl (w_ior X.1 (ax_d X (show cdA 69 128 = some (.ior, 1, 0, 0, 0) from rfl)) (z_anyV (fun y1015 hy1015 ey1015 => ?_)))
            have hor := or_b (by first | exact And.intro (b1008.1) (b1008.2) | (clear g1014 g1010; omega) | (clear g1010; omega) | omega) (by first | exact And.intro (oq_0fe6b7e2) (oq_0db09374) | (clear g1014 g1010; omega) | (clear g1010; omega) | omega) hy1015 ey1015
            have hcs : iC t 16 (c : Int).toNat = iC s 16 (c : Int).toNat := fm_c F List.not_mem_nil
            refine s_putI X 19 rfl (c518_ok rfl) rfl rfl (by decide) (nar_ret (by first | exact oq_31e518ae hor.1.2 hor.1.1 | (clear g1014 g1010; omega) | (clear g1010; omega) | omega)) (fit_z (by first | exact oq_31e518ae hor.1.2 hor.1.1 | (clear g1014 g1010; omega) | (clear g1010; omega) | omega)) rfl (wd_gen (fun s1016 hs1016 => ?_))
            have Is1016 : Bd s1016 := eqB hs1016 (bd_I I (show (0 : Int) ≤ y1015 ∧ y1015 ≤ 1 by first | exact And.intro (hor.1.1) (hor.1.2) | (clear g1014 g1010; omega) | (clear g1010; omega) | omega) hy1015)
            have Fs1016 := eqF hs1016 (fm_I F (inl_ok (a := 15) rfl))
            have vs1016 : iI s1016 15 = y1015 := eqI hs1016 (iI_u hy1015)
            have ws1016_12 : iI s1016 12 = iI t 12 := eqI hs1016 rfl
            have ws1016_13 : iI s1016 13 = iI t 13 := eqI hs1016 rfl
            have ws1016_17 : iI s1016 17 = iI t 17 := eqI hs1016 rfl
            refine z_inc X (x := c) (lv' := [(4, .int (Int32.ofInt (c + 1))), (0, .ref (A 19))]) rfl (by decide) (List.Mem.tail _ (List.Mem.head _)) (fun _ h => h) (z_goto X (t := 80) rfl rfl (WS_pq [1, 0] (lv' := [(0, .ref (A 19)), (4, .int (Int32.ofInt (c + 1)))]) rfl ?_))
            exact ih _ (c + 1) Is1016 Fs1016 (nfq_up hq (by first | exact hi.1.1 | (clear g1014 g1010; omega) | (clear g1010; omega) | omega) (fun z => by have w := hor.2 z; omega) (by first | exact vs1016 | (clear g1014 g1010; omega) | (clear g1010; omega) | omega)) (by first | exact ⟨And.intro (oq_54f49eb5 hi.1.1) (oq_228270fa g1007 b1006.2), oq_1aa5be9e ws1016_12 hi.2.1, oq_e4757433 ws1016_13 hi.2.2.1, oq_1aa5be9e ws1016_13 hi.2.2.2.1, hi.2.2.2.2⟩ | omega) (by first | exact qk_me hm (by decide) (oq_b0a4f3e2 g1007 b1006.2) | exact oq_7cc0e6da g1007 b1006.2 hm | omega) kx
          ·
            refine z_const X rfl (z_goto X (t := 128) rfl rfl (w_ior X.1 (ax_d X (show cdA 69 128 = some (.ior, 1, 0, 0, 0) from rfl)) (z_anyV (fun y1017 hy1017 ey1017 => ?_))))
            have hor := or_b (by first | exact And.intro (b1008.1) (b1008.2) | (clear g1010; omega) | omega) (by first | exact And.intro (oq_0db09374) (oq_a200df08) | (clear g1010; omega) | omega) hy1017 ey1017
            have hcs : iC t 16 (c : Int).toNat = iC s 16 (c : Int).toNat := fm_c F List.not_mem_nil
            refine s_putI X 19 rfl (c518_ok rfl) rfl rfl (by decide) (nar_ret (by first | exact Or.inr (oq_d467785f hor.2 hor.1.2 hor.1.1) | (clear g1010; omega) | omega)) (fit_z (by first | exact Or.inr (oq_d467785f hor.2 hor.1.2 hor.1.1) | (clear g1010; omega) | omega)) rfl (wd_gen (fun s1018 hs1018 => ?_))
            have Is1018 : Bd s1018 := eqB hs1018 (bd_I I (show (0 : Int) ≤ y1017 ∧ y1017 ≤ 1 by first | exact And.intro (hor.1.1) (hor.1.2) | (clear g1010; omega) | omega) hy1017)
            have Fs1018 := eqF hs1018 (fm_I F (inl_ok (a := 15) rfl))
            have vs1018 : iI s1018 15 = y1017 := eqI hs1018 (iI_u hy1017)
            have ws1018_12 : iI s1018 12 = iI t 12 := eqI hs1018 rfl
            have ws1018_13 : iI s1018 13 = iI t 13 := eqI hs1018 rfl
            have ws1018_17 : iI s1018 17 = iI t 17 := eqI hs1018 rfl
            refine z_inc X (x := c) (lv' := [(4, .int (Int32.ofInt (c + 1))), (0, .ref (A 19))]) rfl (by decide) (List.Mem.tail _ (List.Mem.head _)) (fun _ h => h) (z_goto X (t := 80) rfl rfl (WS_pq [1, 0] (lv' := [(0, .ref (A 19)), (4, .int (Int32.ofInt (c + 1)))]) rfl ?_))
            exact ih _ (c + 1) Is1018 Fs1018 (nfq_up hq (by first | exact hi.1.1 | (clear g1010; omega) | omega) (fun z => by have w := hor.2 z; omega) (by first | exact vs1018 | (clear g1010; omega) | omega)) (by first | exact ⟨And.intro (oq_54f49eb5 hi.1.1) (oq_228270fa g1007 b1006.2), oq_1aa5be9e ws1018_12 hi.2.1, oq_e4757433 ws1018_13 hi.2.2.1, oq_1aa5be9e ws1018_13 hi.2.2.2.1, hi.2.2.2.2⟩ | omega) (by first | exact qk_me hm (by decide) (oq_b0a4f3e2 g1007 b1006.2) | exact oq_7cc0e6da g1007 b1006.2 hm | omega) kx
  refine z_aload_n X (x := A 19) rfl (List.Mem.head _) (z_load_n X (x := x) rfl (List.Mem.tail _ (List.Mem.head _)) (s_putI X 19 rfl (c518_ok rfl) rfl rfl (by decide) rfl rfl rfl (wd_gen (fun s5 hs5 => ?_))))
  have Is5 : Bd s5 := eqB hs5 (bd_I I (show (0 : Int) ≤ x ∧ x ≤ 9 by first | exact ⟨p0.1, oq_12cf304a p0.2⟩ | omega) ⟨by first | exact oq_fa4e5087 p0.1 | omega, by first | exact oq_d3f5d874 p0.2 | omega⟩)
  have Fs5 := eqF hs5 (fm_I F (inl_ok (a := 12) rfl))
  have vs5 : iI s5 12 = x := eqI hs5 (iI_u ⟨by first | exact oq_fa4e5087 p0.1 | omega, by first | exact oq_d3f5d874 p0.2 | omega⟩)
  have ws5_13 : iI s5 13 = iI s 13 := eqI hs5 rfl
  have ws5_15 : iI s5 15 = iI s 15 := eqI hs5 rfl
  have ws5_17 : iI s5 17 = iI s 17 := eqI hs5 rfl
  refine z_aload_n X (x := A 19) rfl (List.Mem.head _) (z_aload_n X (x := A 19) rfl (List.Mem.head _) (z_getI X 19 rfl (c518_ok rfl) rfl rfl ?_))
  have b6 := bi_17 Is5
  refine s_putI X 19 rfl (c518_ok rfl) rfl rfl (by decide) rfl rfl rfl (wd_gen (fun s7 hs7 => ?_))
  have Is7 : Bd s7 := eqB hs7 (bd_I Is5 (show ((-1) : Int) ≤ (iI s5 17) ∧ (iI s5 17) ≤ 7 by first | exact ⟨b6.1, b6.2⟩ | omega) (rng_to _))
  have Fs7 := eqF hs7 (fm_I Fs5 (inl_ok (a := 13) rfl))
  have vs7 : iI s7 13 = (iI s5 17) := eqI hs7 (iI_u (rng_to _))
  have ws7_12 : iI s7 12 = iI s5 12 := eqI hs7 rfl
  have ws7_15 : iI s7 15 = iI s5 15 := eqI hs7 rfl
  have ws7_17 : iI s7 17 = iI s5 17 := eqI hs7 rfl
  refine z_aload_n X (x := A 19) rfl (List.Mem.head _) (z_aload_n X (x := A 19) rfl (List.Mem.head _) (z_getI X 19 rfl (c518_ok rfl) rfl rfl ?_))
  have b8 := bi_18 Is7
  refine s_putI X 19 rfl (c518_ok rfl) rfl rfl (by decide) rfl rfl rfl (wd_gen (fun s9 hs9 => ?_))
  have Is9 : Bd s9 := eqB hs9 (bd_I Is7 (show ((-2147483648) : Int) ≤ (iI s7 18) ∧ (iI s7 18) ≤ 2147483647 by first | exact ⟨b8.1, b8.2⟩ | omega) (rng_to _))
  have Fs9 := eqF hs9 (fm_I Fs7 (inl_ok (a := 14) rfl))
  have vs9 : iI s9 14 = (iI s7 18) := eqI hs9 (iI_u (rng_to _))
  have ws9_12 : iI s9 12 = iI s7 12 := eqI hs9 rfl
  have ws9_13 : iI s9 13 = iI s7 13 := eqI hs9 rfl
  have ws9_15 : iI s9 15 = iI s7 15 := eqI hs9 rfl
  have ws9_17 : iI s9 17 = iI s7 17 := eqI hs9 rfl
  refine z_aload_n X (x := A 19) rfl (List.Mem.head _) (z_const X rfl (s_putI X 19 rfl (c518_ok rfl) rfl rfl (by decide) (nar_ret (by first | exact Or.inl (rfl) | omega)) (fit_z (by first | exact Or.inl (rfl) | omega)) rfl (wd_gen (fun s10 hs10 => ?_))))
  have Is10 : Bd s10 := eqB hs10 (bd_I Is9 (show (0 : Int) ≤ 0 ∧ 0 ≤ 1 by first | exact ⟨by decide, by decide⟩ | omega) (by decide))
  have Fs10 := eqF hs10 (fm_I Fs9 (inl_ok (a := 15) rfl))
  have vs10 : iI s10 15 = 0 := eqI hs10 (iI_u (by decide))
  have ws10_12 : iI s10 12 = iI s9 12 := eqI hs10 rfl
  have ws10_13 : iI s10 13 = iI s9 13 := eqI hs10 rfl
  have ws10_17 : iI s10 17 = iI s9 17 := eqI hs10 rfl
  refine z_aload_n X (x := A 19) rfl (List.Mem.head _) (z_getI X 19 rfl (c518_ok rfl) rfl rfl ?_)
  have b11 := bi_13 Is10
  refine z_const X rfl (z_icmp_eq X (t := 138) rfl rfl (rng_to _) (by decide) (fun g12 => ?_) (fun g12 => ?_))
  ·
    exact w_vret X.1 q hRt (ax_d X (show cdA 69 138 = some (.return_, 1, 0, 0, 0) from rfl)) (Nat.zero_le _) (Nat.zero_le _) (hK _ Is10 Fs10 (by first | exact oq_ac0e91e1 ws10_12 ws9_12 ws7_12 vs5 | omega) (by first | exact oq_2da220b0 g12 ws10_13 ws9_13 vs7 ws5_17 b4.1 | omega) (fun _ h => absurd (by first | exact g12 | omega) h))
  ·
    refine z_aload_n X (x := A 19) rfl (List.Mem.head _) (z_aload_n X (x := A 19) rfl (List.Mem.head _) (z_getI X 19 rfl (c518_ok rfl) rfl rfl ?_))
    have b13 := bi_13 Is10
    refine z_callV X 19 (rm := rmN 70) (As := [.int (Int32.ofInt (iI s10 13))]) (st := []) rfl rfl (by decide) rfl (by rw [E.1, E.2.1, E.2.2.1]; exact c7_beginOf3 G Is10 (by first | exact ⟨oq_5234833b b13.1 g12, b13.2⟩ | omega)) ⟨by rw [E.2.2.2]; exact (show (rmN 70).frames + 1 ≤ (rmN 69).frames by decide), by rw [E.2.2.2]; exact (show 8 + (mNL (miB 70) + 11) + (rmN 70).locals ≤ (rmN 69).locals by decide), by rw [E.2.2.2]; exact (show 0 + (rmN 70).cells ≤ (rmN 69).cells by decide), by rw [E.2.2.2]; exact (show 0 + (rmN 70).slots ≤ (rmN 69).slots by decide)⟩ (Nat.le_of_ble_eq_true rfl) (fun vv s14 hq => ?_) (fun ee s14 hq => ?_)
    rotate_left
    · obtain ⟨rfl, e15, hv, hrs14, hps14⟩ := hq; cases hv
    obtain ⟨rfl, e15, hv, hrs14, hps14⟩ := hq
    cases hv
    show WS k 78 [(0, .ref (A 19)), (1, .int (Int32.ofInt x))] [.int (Int32.ofInt e15)] (Wd A dT s10) 0 0
    have hbg : e15 = bgV s (iI s 17) := by rw [hps14.1, show iI s10 13 = iI s 17 by first | exact oq_ac0e91e1 ws10_13 ws9_13 vs7 ws5_17 | (clear g12; omega) | omega]; exact bgv_s (fun j => fm_c Fs10 List.not_mem_nil)
    have hbn : 0 ≤ bgV s (iI s 17) := by first | exact oq_151a919a hbg hps14.2.1 | (clear g12; omega) | omega
    refine z_store X (lv' := [(4, .int (Int32.ofInt e15)), (0, .ref (A 19)), (1, .int (Int32.ofInt x))]) rfl (by decide) (fun _ h => h) (WS_pq [1, 0] (lv' := [(0, .ref (A 19)), (4, .int (Int32.ofInt e15))]) rfl (L80 ((200 - e15 : Int).toNat + 1) s10 e15 Is10 Fs10 (by rw [hbg]; exact nfq_0) (by first | exact ⟨And.intro (hps14.2.1) (hps14.2.2), oq_45b593e3 ws10_12 vs5 ws9_12 ws7_12, oq_5234833b b13.1 g12, oq_a959501e ws5_17 ws10_13 ws9_13 vs7, hbn⟩ | omega) (Nat.lt_succ_self _) ?_))
    intro s16 x17 Is16 Fs16 Qs16 hs16
    have b18 := bi_12 Is16
    have b19 := bi_13 Is16
    have b20 := bi_15 Is16
    have b21 := bi_17 Is16
    exact w_vret X.1 q hRt (ax_d X (show cdA 69 138 = some (.return_, 1, 0, 0, 0) from rfl)) (Nat.zero_le _) (Nat.zero_le _) (hK _ Is16 Fs16 (by first | exact hs16.1 | (clear g12; omega) | omega) (by first | exact hs16.2.2.1 | (clear g12; omega) | omega) (fun q _ => nfq_e Qs16 (by first | exact hs16.2.2.2.1 | (clear g12; omega) | omega) (by first | exact hs16.2.2.1 | (clear g12; omega) | omega) (by first | exact hs16.2.2.2.2 | (clear g12; omega) | omega) (fun j => fm_c Fs16 List.not_mem_nil) (fun j => fm_c Fs16 List.not_mem_nil) q))
theorem c7_adopt4 (G : GX l s0 D tys a0 dT) (I : Bd s) {x : Int} (p0 : 0 ≤ x ∧ x ≤ 8) : CTX l s0 D A dT 69 (rmN 69) [.ref (A 19), .int (Int32.ofInt x)] s (fun o t => Bd t ∧ Fm [12, 13, 14, 15] [16, 17, 18, 19] s t ∧ o = .inl none ∧ (iI t 12 = x ∧ ADP s t)) := by
  refine ctX_ofX G (by decide) (Nat.le_of_ble_eq_true rfl) (fun k X E ET hRt hXt q => ?_)
  show WS k 0 [(0, .ref (A 19)), (1, .int (Int32.ofInt x))] [] _ 0 0
  have hb : bsS 19 = .inr (7, [aR (some 1), aR (some 20), aR (some 21), aS 12, aS 13, aS 14, aS 15, aR (some 22), aR (some 23), aS 16, aS 17, aS 18, aS 19, aR (some 24)]) := rfl
  have he := Wd_get (A := A) (dT := dT) (s := s) (show 19 < 518 by decide)
  rw [hb] at he
  have hlen : 19 < (Wd A dT s).length := by rw [Wd_len]; omega
  refine w_aload_n X.1 (x := A 19) (ax_d X (show cdA 69 0 = some (.aload_n 0, 1, 0, 0, 0) from rfl)) (List.Mem.head _) (w_getR X rfl he (v := .ref (A 20)) rfl (w_astore_n X.1 (lv' := [(2, .ref (A 20)), (0, .ref (A 19)), (1, .int (Int32.ofInt x))]) (ax_d X (show cdA 69 4 = some (.astore_n 2, 1, 0, 0, 0) from rfl)) (by rw [X.2.1.2.2]; decide) (fun _ h => h) (w_aload_n X.1 (x := A 19) (ax_d X (show cdA 69 5 = some (.aload_n 0, 1, 0, 0, 0) from rfl)) (List.Mem.tail _ (List.Mem.head _)) (w_getR X rfl he (v := .ref (A 21)) rfl (w_astore_n X.1 (lv' := [(3, .ref (A 21)), (2, .ref (A 20)), (0, .ref (A 19)), (1, .int (Int32.ofInt x))]) (ax_d X (show cdA 69 9 = some (.astore_n 3, 1, 0, 0, 0) from rfl)) (by rw [X.2.1.2.2]; decide) (fun _ h => h) (w_aload_n X.1 (x := A 19) (ax_d X (show cdA 69 10 = some (.aload_n 0, 1, 0, 0, 0) from rfl)) (List.Mem.tail _ (List.Mem.tail _ (List.Mem.head _))) (w_aload_n X.1 (x := A 19) (ax_d X (show cdA 69 11 = some (.aload_n 0, 1, 0, 0, 0) from rfl)) (List.Mem.tail _ (List.Mem.tail _ (List.Mem.head _))) (w_getR X rfl he (v := .ref (A 22)) rfl (w_putR X rfl he (by decide) (by show _ < 14; decide) rfl rfl rfl ?_)))))))))
  have he1 := List.getElem?_set_self (a := ((A 19, .inr (7, (List.map (cv (vS A s)) [aR (some 1), aR (some 20), aR (some 21), aS 12, aS 13, aS 14, aS 15, aR (some 22), aR (some 23), aS 16, aS 17, aS 18, aS 19, aR (some 24)]).set 1 (.ref (A 22)))) : Nat × va_E)) hlen
  refine w_aload_n X.1 (x := A 19) (ax_d X (show cdA 69 18 = some (.aload_n 0, 1, 0, 0, 0) from rfl)) (List.Mem.tail _ (List.Mem.tail _ (List.Mem.head _))) (w_aload_n X.1 (x := A 19) (ax_d X (show cdA 69 19 = some (.aload_n 0, 1, 0, 0, 0) from rfl)) (List.Mem.tail _ (List.Mem.tail _ (List.Mem.head _))) (w_getR X rfl he1 (v := .ref (A 23)) rfl (w_putR X rfl he1 (by decide) (by show _ < 14; decide) rfl rfl rfl ?_)))
  rw [List.set_set]
  have he2 := List.getElem?_set_self (a := ((A 19, .inr (7, ((List.map (cv (vS A s)) [aR (some 1), aR (some 20), aR (some 21), aS 12, aS 13, aS 14, aS 15, aR (some 22), aR (some 23), aS 16, aS 17, aS 18, aS 19, aR (some 24)]).set 1 (.ref (A 22))).set 2 (.ref (A 23)))) : Nat × va_E)) hlen
  refine w_aload_n X.1 (x := A 19) (ax_d X (show cdA 69 26 = some (.aload_n 0, 1, 0, 0, 0) from rfl)) (List.Mem.tail _ (List.Mem.tail _ (List.Mem.head _))) (w_aload_n X.1 (x := A 20) (ax_d X (show cdA 69 27 = some (.aload_n 2, 1, 0, 0, 0) from rfl)) (List.Mem.tail _ (List.Mem.head _)) (w_putR X rfl he2 (by decide) (by show _ < 14; decide) rfl rfl rfl ?_))
  rw [List.set_set]
  have he3 := List.getElem?_set_self (a := ((A 19, .inr (7, (((List.map (cv (vS A s)) [aR (some 1), aR (some 20), aR (some 21), aS 12, aS 13, aS 14, aS 15, aR (some 22), aR (some 23), aS 16, aS 17, aS 18, aS 19, aR (some 24)]).set 1 (.ref (A 22))).set 2 (.ref (A 23))).set 7 (.ref (A 20)))) : Nat × va_E)) hlen
  refine w_aload_n X.1 (x := A 19) (ax_d X (show cdA 69 31 = some (.aload_n 0, 1, 0, 0, 0) from rfl)) (List.Mem.tail _ (List.Mem.tail _ (List.Mem.head _))) (w_aload_n X.1 (x := A 21) (ax_d X (show cdA 69 32 = some (.aload_n 3, 1, 0, 0, 0) from rfl)) (List.Mem.head _) (w_putR X rfl he3 (by decide) (by show _ < 14; decide) rfl rfl rfl ?_))
  rw [List.set_set]
  have hsw : ∀ j, (Wd (fun c => A (sw c)) dT (pSw s))[j]? = ((Wd A dT s).set 19 (A 19, .inr (7, ((((List.map (cv (vS A s)) [aR (some 1), aR (some 20), aR (some 21), aS 12, aS 13, aS 14, aS 15, aR (some 22), aR (some 23), aS 16, aS 17, aS 18, aS 19, aR (some 24)]).set 1 (.ref (A 22))).set 2 (.ref (A 23))).set 7 (.ref (A 20))).set 8 (.ref (A 21)))))[sw j]? := fun j => by
    rw [Wd_sw j, hb]
    rfl
  refine WS_perm hsw (WS_pq [2, 3] (lv' := [(0, .ref (A 19)), (1, .int (Int32.ofInt x))]) rfl ?_)
  exact c7_adopt364 (A := fun c => A (sw c)) G (bd_sw I) p0 X E hRt q (fun t It Ft ht h2 h3 => ⟨fun c => A (sw c), t, swA_sw A, rfl, It, fm_ts (fm_ts (fm_rf _ _ _) fm_sw (by decide) (by decide)) Ft (by decide) (by decide), rfl, ht, (fun j => (fm_c Ft List.not_mem_nil : iC t 16 j = iC (pSw s) 16 j).trans rfl), (fun j => (fm_c Ft List.not_mem_nil : iC t 17 j = iC (pSw s) 17 j).trans rfl), h2.trans rfl, h3⟩)
set_option maxRecDepth 4000 in
theorem c7_read4 (G : GX l s0 D tys a0 dT) {B : Nat → Int} {N : Int} (SF : SF0 s0) (GT : TXw0 s0) (I : Bd s) (jBYW : BYW B N s) (jTKS : TKS B N s) (p0 : iI s 2 ≤ iI s 1) (p1 : iI s 4 ≤ iI s 2) (p2 : 0 ≤ iI s 12 ∧ iI s 12 ≤ 8) (p3 : iI s 4 = sk B N 0) : CTX l s0 D A dT 68 (rmN 68) [.ref (A 19)] s (fun o t => Bd t ∧ Fm [2, 4, 6, 5, 7, 8, 19, 16, 17, 18, 12, 13, 14, 15] [16, 17, 18, 19] s t ∧ ∃ e, o = .inl (some (.int (Int32.ofInt e))) ∧ rng e ∧ (((e = 1 ∧ RLC B N (iI t 12) t) ∨ (e = 0 ∧ (∃ n : Nat, RUL B N (iI t 7) n ∧ iI t 7 ≠ 0) ∧ iI t 13 = iI s 13 ∧ iI t 15 = iI s 15 ∧ SAM 16 s t ∧ SAM 17 s t)) ∧ 0 ≤ iI t 12 ∧ iI t 12 ≤ 8)) := by
  refine ctX_ofX G (by decide) (Nat.le_of_ble_eq_true rfl) (fun k X E ET hRt hXt q => ?_)
  show WS k 0 [(0, .ref (A 19))] [] _ 0 0
  have F : Fm [2, 4, 6, 5, 7, 8, 19, 16, 17, 18, 12, 13, 14, 15] [16, 17, 18, 19] s s := fm_rf _ _ s
  have aw0_16 : SAM 16 s s := sam_rf
  have aw0_17 : SAM 17 s s := sam_rf
  have hN := jBYW.2.1
  have hW := jBYW.2.2
  have hA := swA_rf A
  have b1 := bi_2 I
  have b2 := bi_1 I
  have b3 := bi_4 I
  have b4 := bi_5 I
  have b5 := bi_6 I
  have b6 := bi_19 I
  have b7 := bi_16 I
  have b8 := bi_7 I
  have b9 := bi_12 I
  have b10 := bi_17 I
  have b11 := bi_13 I
  have b12 := bi_15 I
  have L22 : ∀ (n : Nat) (t : PS) (c : Int), Bd t → Fm [2, 4, 6, 5, 7, 8, 19, 16, 17, 18, 12, 13, 14, 15] [16, 17, 18, 19] s t → BYW B N t → TKS B N t → (CQD B N c t ∧ SAM 16 s t ∧ SAM 17 s t) → (0 ≤ c ∧ c ≤ 8 ∧ 0 ≤ iI t 12 ∧ iI t 12 ≤ 8 ∧ iI t 19 = 0 ∧ iI t 4 ≤ N ∧ iI t 16 ≤ iI t 4 ∧ iI t 13 = iI s 13 ∧ iI t 15 = iI s 15 ∧ iI t 2 ≤ iI t 1 ∧ iI t 4 ≤ iI t 2) → (9 - c : Int).toNat < n → (∀ (t' : PS) (c' : Int), Bd t' → Fm [2, 4, 6, 5, 7, 8, 19, 16, 17, 18, 12, 13, 14, 15] [16, 17, 18, 19] s t' → BYW B N t' → TKS B N t' → (True) → (0 ≤ c' ∧ c' ≤ 8 ∧ 8 < c') → WS k 62 [(0, .ref (A 19)), (1, .int (Int32.ofInt c'))] [] (Wd A dT t') 0 0) → WS k 22 [(0, .ref (A 19)), (1, .int (Int32.ofInt c))] [] (Wd A dT t) 0 0 := by
    intro n
    induction n with
    | zero =>
      intro t c I F jjBYW jjTKS hq hi hm kx
      exact absurd hm (Nat.not_lt_zero _)
    | succ n ih =>
      intro t c I F jjBYW jjTKS hq hi hm kx
      have b1001 := bi_2 I
      have b1002 := bi_1 I
      have b1003 := bi_4 I
      have b1004 := bi_5 I
      have b1005 := bi_6 I
      have b1006 := bi_19 I
      have b1007 := bi_16 I
      have b1008 := bi_7 I
      have b1009 := bi_12 I
      have b1010 := bi_17 I
      have b1011 := bi_13 I
      have b1012 := bi_15 I
      have hN := jjBYW.2.1
      have hW := jjBYW.2.2
      have hlt := tkw_end jjTKS
      refine z_load_n X (x := c) rfl (List.Mem.tail _ (List.Mem.head _)) (z_bipush X rfl (z_icmp_gt X (t := 62) rfl rfl ⟨by first | exact oq_fa4e5087 hi.1 | omega, by first | exact oq_d3f5d874 hi.2.1 | omega⟩ (by decide) (fun g1013 => ?_) (fun g1013 => ?_)))
      ·
        refine WS_pq [0, 1] (lv' := [(0, .ref (A 19)), (1, .int (Int32.ofInt c))]) rfl ?_
        exact kx _ c I F jjBYW jjTKS trivial (by first | exact ⟨hi.1, hi.2.1, g1013⟩ | omega)
      ·
        refine z_aload_n X (x := A 19) rfl (List.Mem.head _) (s_getR X 19 rfl (c518_ok rfl) rfl rfl (z_getI X 1 rfl (c518_ok rfl) rfl rfl ?_))
        have b1014 := bi_5 I
        refine z_const X rfl (z_icmp_ne X (t := 46) rfl rfl (rng_to _) (by decide) (fun g1015 => ?_) (fun g1015 => ?_))
        ·
          have hne : iI t 4 < N := by first | (clear g1015; omega) | omega
          refine z_aload_n X (x := A 19) rfl (List.Mem.head _) (z_load_n X (x := c) rfl (List.Mem.tail _ (List.Mem.head _)) (zcV_i2 X E 19 (As := [.int (Int32.ofInt c)]) (st := []) rfl rfl rfl rfl (c7_readClause4 G SF GT I jjBYW jjTKS (by first | exact ⟨hi.1, g1013⟩ | omega) (by first | exact hi.2.2.2.2.2.2.2.2.2.1 | omega) (by first | exact hi.2.2.2.2.2.2.2.2.2.2 | omega) (by first | exact hi.2.2.2.2.1 | omega) (by first | exact hi.2.2.2.2.2.2.1 | omega)) rfl (Nat.le_of_ble_eq_true rfl) (fun s1016 e1017 Is1016 Fs1016 JBYW_s1016 JTKS_s1016 hrs1016 hps1016 => ?_)))
          have hps1016p := And.intro hps1016.2.1 (And.intro hps1016.2.2.1 (hps1016.2.2.2))
          have Gs1016 := fm_tq F Fs1016 rfl rfl
          have JBYW_s1016 : BYW B N s1016 := BYW_fm Fs1016 (by decide) jjBYW
          have b1018 := bi_2 Is1016
          have ws1016_1 : iI s1016 1 = iI t 1 := fm_iq Fs1016 rfl
          have b1019 := bi_4 Is1016
          have b1020 := bi_5 Is1016
          have b1021 := bi_6 Is1016
          have b1022 := bi_19 Is1016
          have b1023 := bi_16 Is1016
          have b1024 := bi_7 Is1016
          have ws1016_12 : iI s1016 12 = iI t 12 := fm_iq Fs1016 rfl
          have b1025 := bi_17 Is1016
          have ws1016_13 : iI s1016 13 = iI t 13 := fm_iq Fs1016 rfl
          have ws1016_15 : iI s1016 15 = iI t 15 := fm_iq Fs1016 rfl
          have aws1016_16 : SAM 16 t s1016 := sam_ts (sam_rf (a := 16) (s := t)) (sam_fm Fs1016 (by decide))
          have aws1016_17 : SAM 17 t s1016 := sam_ts (sam_rf (a := 17) (s := t)) (sam_fm Fs1016 (by decide))
          have h9 := fun h => chc_9 h (cld_c hps1016.2.2.2)
          refine z_if_ne X (t := 56) rfl rfl hrs1016 (fun g1026 => ?_) (fun g1026 => ?_)
          ·
            refine z_inc X (x := c) (lv' := [(1, .int (Int32.ofInt (c + 1))), (0, .ref (A 19))]) rfl (by decide) (List.Mem.tail _ (List.Mem.head _)) (fun _ h => h) (z_goto X (t := 22) rfl rfl (WS_pq [1, 0] (lv' := [(0, .ref (A 19)), (1, .int (Int32.ofInt (c + 1)))]) rfl ?_))
            exact ih _ (c + 1) Is1016 Gs1016 JBYW_s1016 JTKS_s1016 ⟨cqd_up hq.1 (by first | exact hi.1 | (clear g1026 hps1016 g1015; omega) | (clear hps1016 g1015; omega) | omega) (by first | exact And.intro (b1003.1) (hne) | (clear g1026 hps1016 g1015; omega) | (clear hps1016 g1015; omega) | omega) (by first | exact b1007.1 | (clear g1026 hps1016 g1015; omega) | (clear hps1016 g1015; omega) | omega) (by first | exact b1023.1 | (clear g1026 hps1016 g1015; omega) | (clear hps1016 g1015; omega) | omega) hps1016.2.2.2 (by first | exact g1026 | (clear g1026 hps1016 g1015; omega) | (clear hps1016 g1015; omega) | omega), sam_ts hq.2.1 aws1016_16, sam_ts hq.2.2 aws1016_17⟩ (by first | exact ⟨oq_54f49eb5 hi.1, by first | exact oq_08d28ec2 g1026 h9 | (clear g1026 hps1016 g1015; omega) | (clear hps1016 g1015; omega) | omega, oq_e4757433 ws1016_12 b1009.1, oq_86ef0b17 ws1016_12 hi.2.2.2.1, oq_ff203326 g1026 b1022.1 hps1016.1, oq_fc5e1ae1 g1026 hps1016.1, oq_43b1a270 g1026 hps1016.1, oq_1aa5be9e ws1016_13 hi.2.2.2.2.2.2.2.1, oq_1aa5be9e ws1016_15 hi.2.2.2.2.2.2.2.2.1, hps1016.2.1, hps1016.2.2.1⟩ | omega) (by first | exact qk_me hm (by decide) (oq_fa1cb672 g1013) | exact oq_5c4c75c6 g1013 hm | omega) kx
          ·
            refine z_const X rfl ?_
            exact w_iret X.1 q hRt (nar_ret (by first | exact Or.inl (by decide) | omega)) (ax_d X (show cdA 68 55 = some (.ireturn, 1, 0, 0, 0) from rfl)) (Nat.zero_le _) (Nat.zero_le _) ⟨A, _, hA, rfl, Is1016, Gs1016, 0, rfl, (by decide), ⟨Or.inr ⟨rfl, ⟨_, chc_no (v := s1016) (cqd_n hq.1) (by first | exact hi.1 | (clear hps1016 g1015; omega) | (clear g1015; omega) | omega) (by first | exact hne | (clear hps1016 g1015; omega) | (clear g1015; omega) | omega) (cld_c hps1016.2.2.2) (by first | exact g1026 | (clear hps1016 g1015; omega) | (clear g1015; omega) | omega) (by first | exact rfl | (clear hps1016 g1015; omega) | (clear g1015; omega) | omega)⟩, by first | exact oq_1aa5be9e ws1016_13 hi.2.2.2.2.2.2.2.1 | omega, by first | exact oq_1aa5be9e ws1016_15 hi.2.2.2.2.2.2.2.2.1 | omega, sam_ts hq.2.1 aws1016_16, sam_ts hq.2.2 aws1016_17⟩, by first | exact oq_e4757433 ws1016_12 b1009.1 | omega, by first | exact oq_86ef0b17 ws1016_12 hi.2.2.2.1 | omega⟩⟩
        ·
          have hen := hlt.mp (by first | exact g1015 | omega)
          refine z_aload_n X (x := A 19) rfl (List.Mem.head _) (z_load_n X (x := c) rfl (List.Mem.tail _ (List.Mem.head _)) (z_callVX X 19 (rm := rmN 69) (As := [.int (Int32.ofInt c)]) (st := []) rfl rfl (by decide) rfl (by rw [E.1, E.2.1, E.2.2.1]; exact c7_adopt4 G I (by first | exact And.intro (hi.1) (g1013) | omega) ) ⟨by rw [E.2.2.2]; exact (show (rmN 69).frames + 1 ≤ (rmN 68).frames by decide), by rw [E.2.2.2]; exact (show 8 + (mNL (miB 69) + 11) + (rmN 69).locals ≤ (rmN 68).locals by decide), by rw [E.2.2.2]; exact (show 0 + (rmN 69).cells ≤ (rmN 68).cells by decide), by rw [E.2.2.2]; exact (show 0 + (rmN 69).slots ≤ (rmN 68).slots by decide)⟩ (Nat.le_of_ble_eq_true rfl) (fun vv A s1027 hA2 hq => ?_) (fun ee A s1027 hA2 hq => ?_)))
          rotate_left
          · obtain ⟨Is1027, Fs1027, hv, hps1027⟩ := hq; cases hv
          obtain ⟨Is1027, Fs1027, hv, hps1027⟩ := hq
          cases hv
          replace hA := swA_ts hA hA2
          rw [← hA2 19 (by decide)]
          have Gs1027 := fm_tq F Fs1027 rfl rfl
          have ws1027_2 : iI s1027 2 = iI t 2 := fm_iq Fs1027 rfl
          have ws1027_1 : iI s1027 1 = iI t 1 := fm_iq Fs1027 rfl
          have ws1027_4 : iI s1027 4 = iI t 4 := fm_iq Fs1027 rfl
          have ws1027_5 : iI s1027 5 = iI t 5 := fm_iq Fs1027 rfl
          have ws1027_6 : iI s1027 6 = iI t 6 := fm_iq Fs1027 rfl
          have ws1027_19 : iI s1027 19 = iI t 19 := fm_iq Fs1027 rfl
          have ws1027_16 : iI s1027 16 = iI t 16 := fm_iq Fs1027 rfl
          have ws1027_7 : iI s1027 7 = iI t 7 := fm_iq Fs1027 rfl
          have b1029 := bi_12 Is1027
          have ws1027_17 : iI s1027 17 = iI t 17 := fm_iq Fs1027 rfl
          have b1030 := bi_13 Is1027
          have b1031 := bi_15 Is1027
          show WS k 44 [(0, .ref (A 19)), (1, .int (Int32.ofInt c))] [] (Wd A dT s1027) 0 0
          refine z_const X rfl ?_
          exact w_iret X.1 q hRt (nar_ret (by first | exact Or.inr (by decide) | omega)) (ax_d X (show cdA 68 45 = some (.ireturn, 1, 0, 0, 0) from rfl)) (Nat.zero_le _) (Nat.zero_le _) ⟨A, _, hA, rfl, Is1027, Gs1027, 1, rfl, (by decide), ⟨Or.inl ⟨rfl, by rw [show iI s1027 12 = c by first | exact hps1027.1 | omega]; exact rlc_of hq.1 (by first | exact hi.1 | omega) (by first | exact hen | omega) hps1027.2⟩, by first | exact b1029.1 | omega, by first | exact oq_86ef0b17 hps1027.1 g1013 | omega⟩⟩
  refine z_aload_n X (x := A 19) rfl (List.Mem.head _) (z_const X rfl (s_putI X 19 rfl (c518_ok rfl) rfl rfl (by decide) rfl rfl rfl (wd_gen (fun s13 hs13 => ?_))))
  have Is13 : Bd s13 := eqB hs13 (bd_I I (show (0 : Int) ≤ 0 ∧ 0 ≤ 200 by first | exact ⟨by decide, by decide⟩ | omega) (by decide))
  have Fs13 := eqF hs13 (fm_I F (inl_ok (a := 16) rfl))
  have vs13 : iI s13 16 = 0 := eqI hs13 (iI_u (by decide))
  have ws13_2 : iI s13 2 = iI s 2 := eqI hs13 rfl
  have ws13_1 : iI s13 1 = iI s 1 := eqI hs13 rfl
  have ws13_4 : iI s13 4 = iI s 4 := eqI hs13 rfl
  have ws13_5 : iI s13 5 = iI s 5 := eqI hs13 rfl
  have ws13_6 : iI s13 6 = iI s 6 := eqI hs13 rfl
  have ws13_19 : iI s13 19 = iI s 19 := eqI hs13 rfl
  have ws13_7 : iI s13 7 = iI s 7 := eqI hs13 rfl
  have ws13_12 : iI s13 12 = iI s 12 := eqI hs13 rfl
  have ws13_17 : iI s13 17 = iI s 17 := eqI hs13 rfl
  have ws13_13 : iI s13 13 = iI s 13 := eqI hs13 rfl
  have ws13_15 : iI s13 15 = iI s 15 := eqI hs13 rfl
  have aws13_16 : SAM 16 s s13 := by rw [hs13]; exact aw0_16
  have aws13_17 : SAM 17 s s13 := by rw [hs13]; exact aw0_17
  have fs13 : Fm [16] [] s s13 := by rw [hs13]; exact fm_I (fm_rf _ _ _) (show 16 ∈ _ by decide)
  have JBYW_s13 : BYW B N s13 := BYW_fm fs13 (by decide) jBYW
  have JTKS_s13 : TKS B N s13 := TKS_fm fs13 (by decide) jTKS
  refine z_aload_n X (x := A 19) rfl (List.Mem.head _) (z_const X rfl (s_putI X 19 rfl (c518_ok rfl) rfl rfl (by decide) rfl rfl rfl (wd_gen (fun s14 hs14 => ?_))))
  have Is14 : Bd s14 := eqB hs14 (bd_I Is13 (show ((-1) : Int) ≤ (-1) ∧ (-1) ≤ 7 by first | exact ⟨by decide, by decide⟩ | omega) (by decide))
  have Fs14 := eqF hs14 (fm_I Fs13 (inl_ok (a := 17) rfl))
  have vs14 : iI s14 17 = (-1) := eqI hs14 (iI_u (by decide))
  have ws14_2 : iI s14 2 = iI s13 2 := eqI hs14 rfl
  have ws14_1 : iI s14 1 = iI s13 1 := eqI hs14 rfl
  have ws14_4 : iI s14 4 = iI s13 4 := eqI hs14 rfl
  have ws14_5 : iI s14 5 = iI s13 5 := eqI hs14 rfl
  have ws14_6 : iI s14 6 = iI s13 6 := eqI hs14 rfl
  have ws14_19 : iI s14 19 = iI s13 19 := eqI hs14 rfl
  have ws14_16 : iI s14 16 = iI s13 16 := eqI hs14 rfl
  have ws14_7 : iI s14 7 = iI s13 7 := eqI hs14 rfl
  have ws14_12 : iI s14 12 = iI s13 12 := eqI hs14 rfl
  have ws14_13 : iI s14 13 = iI s13 13 := eqI hs14 rfl
  have ws14_15 : iI s14 15 = iI s13 15 := eqI hs14 rfl
  have aws14_16 : SAM 16 s s14 := by rw [hs14]; exact aws13_16
  have aws14_17 : SAM 17 s s14 := by rw [hs14]; exact aws13_17
  have fs14 : Fm [17] [] s13 s14 := by rw [hs14]; exact fm_I (fm_rf _ _ _) (show 17 ∈ _ by decide)
  have JBYW_s14 : BYW B N s14 := BYW_fm fs14 (by decide) JBYW_s13
  have JTKS_s14 : TKS B N s14 := TKS_fm fs14 (by decide) JTKS_s13
  refine z_aload_n X (x := A 19) rfl (List.Mem.head _) (z_const X rfl (s_putI X 19 rfl (c518_ok rfl) rfl rfl (by decide) rfl rfl rfl (wd_gen (fun s15 hs15 => ?_))))
  have Is15 : Bd s15 := eqB hs15 (bd_I Is14 (show ((-2147483648) : Int) ≤ 0 ∧ 0 ≤ 2147483647 by first | exact ⟨by decide, by decide⟩ | omega) (by decide))
  have Fs15 := eqF hs15 (fm_I Fs14 (inl_ok (a := 18) rfl))
  have vs15 : iI s15 18 = 0 := eqI hs15 (iI_u (by decide))
  have ws15_2 : iI s15 2 = iI s14 2 := eqI hs15 rfl
  have ws15_1 : iI s15 1 = iI s14 1 := eqI hs15 rfl
  have ws15_4 : iI s15 4 = iI s14 4 := eqI hs15 rfl
  have ws15_5 : iI s15 5 = iI s14 5 := eqI hs15 rfl
  have ws15_6 : iI s15 6 = iI s14 6 := eqI hs15 rfl
  have ws15_19 : iI s15 19 = iI s14 19 := eqI hs15 rfl
  have ws15_16 : iI s15 16 = iI s14 16 := eqI hs15 rfl
  have ws15_7 : iI s15 7 = iI s14 7 := eqI hs15 rfl
  have ws15_12 : iI s15 12 = iI s14 12 := eqI hs15 rfl
  have ws15_17 : iI s15 17 = iI s14 17 := eqI hs15 rfl
  have ws15_13 : iI s15 13 = iI s14 13 := eqI hs15 rfl
  have ws15_15 : iI s15 15 = iI s14 15 := eqI hs15 rfl
  have aws15_16 : SAM 16 s s15 := by rw [hs15]; exact aws14_16
  have aws15_17 : SAM 17 s s15 := by rw [hs15]; exact aws14_17
  have fs15 : Fm [18] [] s14 s15 := by rw [hs15]; exact fm_I (fm_rf _ _ _) (show 18 ∈ _ by decide)
  have JBYW_s15 : BYW B N s15 := BYW_fm fs15 (by decide) JBYW_s14
  have JTKS_s15 : TKS B N s15 := TKS_fm fs15 (by decide) JTKS_s14
  refine z_aload_n X (x := A 19) rfl (List.Mem.head _) (z_const X rfl (s_putI X 19 rfl (c518_ok rfl) rfl rfl (by decide) rfl rfl rfl (wd_gen (fun s16 hs16 => ?_))))
  have Is16 : Bd s16 := eqB hs16 (bd_I Is15 (show (0 : Int) ≤ 0 ∧ 0 ≤ 6 by first | exact ⟨by decide, by decide⟩ | omega) (by decide))
  have Fs16 := eqF hs16 (fm_I Fs15 (inl_ok (a := 19) rfl))
  have vs16 : iI s16 19 = 0 := eqI hs16 (iI_u (by decide))
  have ws16_2 : iI s16 2 = iI s15 2 := eqI hs16 rfl
  have ws16_1 : iI s16 1 = iI s15 1 := eqI hs16 rfl
  have ws16_4 : iI s16 4 = iI s15 4 := eqI hs16 rfl
  have ws16_5 : iI s16 5 = iI s15 5 := eqI hs16 rfl
  have ws16_6 : iI s16 6 = iI s15 6 := eqI hs16 rfl
  have ws16_16 : iI s16 16 = iI s15 16 := eqI hs16 rfl
  have ws16_7 : iI s16 7 = iI s15 7 := eqI hs16 rfl
  have ws16_12 : iI s16 12 = iI s15 12 := eqI hs16 rfl
  have ws16_17 : iI s16 17 = iI s15 17 := eqI hs16 rfl
  have ws16_13 : iI s16 13 = iI s15 13 := eqI hs16 rfl
  have ws16_15 : iI s16 15 = iI s15 15 := eqI hs16 rfl
  have aws16_16 : SAM 16 s s16 := by rw [hs16]; exact aws15_16
  have aws16_17 : SAM 17 s s16 := by rw [hs16]; exact aws15_17
  have fs16 : Fm [19] [] s15 s16 := by rw [hs16]; exact fm_I (fm_rf _ _ _) (show 19 ∈ _ by decide)
  have JBYW_s16 : BYW B N s16 := BYW_fm fs16 (by decide) JBYW_s15
  have JTKS_s16 : TKS B N s16 := TKS_fm fs16 (by decide) JTKS_s15
  refine z_const X rfl (z_store_n X (lv' := [(1, .int (Int32.ofInt 0)), (0, .ref (A 19))]) rfl (by decide) (fun _ h => h) (WS_pq [1, 0] (lv' := [(0, .ref (A 19)), (1, .int (Int32.ofInt 0))]) rfl (L22 ((9 - 0 : Int).toNat + 1) s16 0 Is16 Fs16 JBYW_s16 JTKS_s16 ⟨cqd_0 (by first | exact oq_469c7eaf ws16_4 ws15_4 ws14_4 ws13_4 p3 | omega) (by first | exact oq_04a44f0d ws16_17 ws15_17 vs14 | omega) (by first | exact oq_264718cb ws16_16 ws15_16 ws14_16 vs13 | omega), aws16_16, aws16_17⟩ (by first | exact ⟨by decide, by decide, oq_ea8cf281 ws16_12 ws15_12 ws14_12 ws13_12 b9.1, oq_85681322 ws16_12 ws15_12 ws14_12 ws13_12 p2.2, vs16, by first | exact oq_e022ead3 ws16_4 ws15_4 ws14_4 ws13_4 hN p1 p0 | omega, oq_1ad913b0 ws16_16 ws16_4 ws15_16 ws15_4 ws14_16 ws14_4 ws13_4 vs13 b3.1, oq_45b593e3 ws16_13 ws13_13 ws15_13 ws14_13, oq_45b593e3 ws16_15 ws13_15 ws15_15 ws14_15, oq_25674cec ws16_1 ws16_2 ws15_1 ws15_2 ws14_1 ws14_2 ws13_1 ws13_2 p0, oq_969cff60 ws16_4 ws16_2 ws15_4 ws15_2 ws14_4 ws14_2 ws13_4 ws13_2 p1⟩ | omega) (Nat.lt_succ_self _) ?_)))
  intro s17 x18 Is17 Fs17 JBYW_s17 JTKS_s17 Qs17 hs17
  have b19 := bi_2 Is17
  have b20 := bi_1 Is17
  have b21 := bi_4 Is17
  have b22 := bi_5 Is17
  have b23 := bi_6 Is17
  have b24 := bi_19 Is17
  have b25 := bi_16 Is17
  have b26 := bi_7 Is17
  have b27 := bi_12 Is17
  have b28 := bi_17 Is17
  have b29 := bi_13 Is17
  have b30 := bi_15 Is17
  have hNs17 := JBYW_s17.2.1
  have hWs17 := JBYW_s17.2.2
  refine z_const X rfl ?_
  exact w_iret X.1 q hRt (nar_ret (by first | exact Or.inl (by decide) | omega)) (ax_d X (show cdA 68 63 = some (.ireturn, 1, 0, 0, 0) from rfl)) (Nat.zero_le _) (Nat.zero_le _) ⟨A, _, hA, rfl, Is17, Fs17, 0, rfl, (by decide), by exfalso; omega⟩
set_option maxRecDepth 4000 in
theorem cs_rules4 (G : GX l s0 D tys a0 dT) {B : Nat → Int} (SF : SF0 s0) (GT : TXw0 s0) (I : Bd s) (jBYA : BYA B s) {w : Int} (p0 : rng w) (p1 : 0 ≤ iI s 12 ∧ iI s 12 ≤ 8) : CTX l s0 D A dT 137 (rmN 137) [.ref (A 0), .int (Int32.ofInt w)] s (fun o t => Bd t ∧ Fm [2, 4, 6, 5, 7, 8, 19, 16, 17, 18, 12, 13, 14, 15, 1, 3, 0] [16, 17, 18, 19] s t ∧ ((∃ e, o = .inl (some (.int (Int32.ofInt e))) ∧ rng e ∧ (iI t 0 = 0 ∧ 0 ≤ w ∧ w ≤ iI s 0 ∧ 0 ≤ iI t 12 ∧ iI t 12 ≤ 8 ∧ ((0 ≤ e ∧ RLC B w e t) ∨ (e < 0 ∧ RUA B w e ∧ iI t 13 = iI s 13 ∧ iI t 15 = iI s 15 ∧ SAM 16 s t ∧ SAM 17 s t)))) ∨ ∃ x : Nat, o = .inr (exN x) ∧ (x = 0 ∧ iI t 0 = iI s 0 ∧ 0 ≤ iI t 12 ∧ iI t 12 ≤ 8 ∧ (w < 0 ∨ iI s 0 < w) ∧ iI t 13 = iI s 13 ∧ iI t 15 = iI s 15 ∧ SAM 16 s t ∧ SAM 17 s t))) := by
  refine ctX_ofX G (by decide) (Nat.le_of_ble_eq_true rfl) (fun k X E ET hRt hXt q => ?_)
  show WS k 0 [(0, .ref (A 0)), (1, .int (Int32.ofInt w))] [] _ 0 0
  have F : Fm [2, 4, 6, 5, 7, 8, 19, 16, 17, 18, 12, 13, 14, 15, 1, 3, 0] [16, 17, 18, 19] s s := fm_rf _ _ s
  have aw0_16 : SAM 16 s s := sam_rf
  have aw0_17 : SAM 17 s s := sam_rf
  have hA := swA_rf A
  have b1 := bi_0 I
  have b2 := bi_2 I
  have b3 := bi_1 I
  have b4 := bi_4 I
  have b5 := bi_12 I
  have b6 := bi_7 I
  have b7 := bi_13 I
  have b8 := bi_15 I
  refine z_load_n X (x := w) rfl (List.Mem.tail _ (List.Mem.head _)) (z_if_lt X (t := 15) rfl rfl ⟨by first | exact p0.1 | omega, by first | exact p0.2 | omega⟩ (fun g9 => ?_) (fun g9 => ?_))
  ·
    exact z_throw G X E ET hXt q (st := []) rfl (by decide) (by decide) (Nat.le_of_ble_eq_true rfl) (show 0 + 1 ≤ 1 by decide) (show 0 + 6 ≤ 6 by decide) (show 0 + 1 ≤ 1 by decide) (show 0 + 6 ≤ 6 by decide) ⟨A, _, hA, rfl, I, F, Or.inr ⟨0, rfl, ⟨by first | exact rfl | omega, by first | exact rfl | omega, by first | exact b5.1 | omega, by first | exact p1.2 | omega, by first | exact Or.inl (g9) | omega, by first | exact rfl | omega, by first | exact rfl | omega, aw0_16, aw0_17⟩⟩⟩
  ·
    refine z_load_n X (x := w) rfl (List.Mem.tail _ (List.Mem.head _)) (z_aload_n X (x := A 0) rfl (List.Mem.head _) (s_getR X 0 rfl (c518_ok rfl) rfl rfl (z_getI X 1 rfl (c518_ok rfl) rfl rfl ?_)))
    have b10 := bi_0 I
    refine z_icmp_le X (t := 25) rfl rfl ⟨by first | exact p0.1 | omega, by first | exact p0.2 | omega⟩ (rng_to _) (fun g11 => ?_) (fun g11 => ?_)
    ·
      refine z_aload_n X (x := A 0) rfl (List.Mem.head _) (s_getR X 0 rfl (c518_ok rfl) rfl rfl (z_load_n X (x := w) rfl (List.Mem.tail _ (List.Mem.head _)) (z_const X rfl (zcV_v2 X E 1 (As := [.int (Int32.ofInt w), .int (Int32.ofInt 1)]) (st := []) rfl rfl rfl rfl (c10_open3 G I jBYA (by first | exact ⟨g9, oq_9a94ea72 g11 b10.2⟩ | omega) (by decide)) rfl (Nat.le_of_ble_eq_true rfl) (fun s12 Is12 Fs12 JBYW_s12 JTKS_s12 hps12 => ?_)))))
      have Gs12 := fm_tq F Fs12 rfl rfl
      have b14 := bi_0 Is12
      have b15 := bi_2 Is12
      have b16 := bi_1 Is12
      have b17 := bi_4 Is12
      have ws12_12 : iI s12 12 = iI s 12 := fm_iq Fs12 rfl
      have b18 := bi_7 Is12
      have ws12_13 : iI s12 13 = iI s 13 := fm_iq Fs12 rfl
      have ws12_15 : iI s12 15 = iI s 15 := fm_iq Fs12 rfl
      have aws12_16 : SAM 16 s s12 := sam_ts aw0_16 (sam_fm Fs12 (by decide))
      have aws12_17 : SAM 17 s s12 := sam_ts aw0_17 (sam_fm Fs12 (by decide))
      refine z_aload_n X (x := A 0) rfl (List.Mem.head _) (s_getR X 0 rfl (c518_ok rfl) rfl rfl (z_callVX X 19 (rm := rmN 68) (As := []) (st := []) rfl rfl (by decide) rfl (by rw [E.1, E.2.1, E.2.2.1]; exact c7_read4 G SF GT Is12 JBYW_s12 JTKS_s12 (by first | exact hps12.2.1 | omega) (by first | exact hps12.2.2.1 | omega) (by first | exact And.intro (oq_e4757433 ws12_12 b5.1) (oq_86ef0b17 ws12_12 p1.2) | omega) (by first | exact hps12.2.2.2.1 | omega) ) ⟨by rw [E.2.2.2]; exact (show (rmN 68).frames + 1 ≤ (rmN 137).frames by decide), by rw [E.2.2.2]; exact (show 8 + (mNL (miB 68) + 11) + (rmN 68).locals ≤ (rmN 137).locals by decide), by rw [E.2.2.2]; exact (show 0 + (rmN 68).cells ≤ (rmN 137).cells by decide), by rw [E.2.2.2]; exact (show 0 + (rmN 68).slots ≤ (rmN 137).slots by decide)⟩ (Nat.le_of_ble_eq_true rfl) (fun vv A s19 hA2 hq => ?_) (fun ee A s19 hA2 hq => ?_)))
      rotate_left
      · obtain ⟨Is19, Fs19, e20, hv, hrs19, hps19⟩ := hq; cases hv
      obtain ⟨Is19, Fs19, e20, hv, hrs19, hps19⟩ := hq
      have hps19p := And.intro hps19.2.1 (hps19.2.2)
      cases hv
      replace hA := swA_ts hA hA2
      rw [← hA2 0 (by decide)]
      have Gs19 := fm_tq Gs12 Fs19 rfl rfl
      have ws19_0 : iI s19 0 = iI s12 0 := fm_iq Fs19 rfl
      have b21 := bi_2 Is19
      have ws19_1 : iI s19 1 = iI s12 1 := fm_iq Fs19 rfl
      have b22 := bi_4 Is19
      have b23 := bi_12 Is19
      have b24 := bi_7 Is19
      have b25 := bi_13 Is19
      have b26 := bi_15 Is19
      show WS k 41 [(0, .ref (A 0)), (1, .int (Int32.ofInt w))] [.int (Int32.ofInt e20)] (Wd A dT s19) 0 0
      refine z_if_eq X (t := 54) rfl rfl ⟨by first | exact hrs19.1 | (clear hps19; omega) | omega, by first | exact hrs19.2 | (clear hps19; omega) | omega⟩ (fun g27 => ?_) (fun g27 => ?_)
      ·
        refine z_aload_n X (x := A 0) rfl (List.Mem.head _) (s_getR X 0 rfl (c518_ok rfl) rfl rfl (z_getI X 1 rfl (c518_ok rfl) rfl rfl ?_))
        have b28 := bi_7 Is19
        refine z_bipush X rfl (z_sub X rfl ?_)
        exact w_iret X.1 q hRt rfl (ax_d X (show cdA 137 64 = some (.ireturn, 1, 0, 0, 0) from rfl)) (Nat.zero_le _) (Nat.zero_le _) ⟨A, _, hA, rfl, Is19, Gs19, Or.inl ⟨((iI s19 7) - 10), rfl, ⟨by first | exact oq_d3c9ade5 b28.1 | omega, by first | exact oq_71609f9f b28.2 | omega⟩, ⟨by first | exact oq_333640b7 ws19_0 hps12.1 b14.1 | omega, by first | exact g9 | omega, by first | exact g11 | omega, by first | exact b23.1 | omega, by first | exact hps19p.2 | (clear hps19; omega) | omega, by exact Or.elim hps19.1 (fun q => Or.inl ⟨by first | exact oq_e44ee128 q.1 g27 | (clear hps19; omega) | omega, by have z := q.2; rw [show iI s19 12 = ((iI s19 7) - 10) by first | exact oq_e13159da q.1 g27 | (clear hps19; omega) | omega] at z; exact z⟩) (fun q => by obtain ⟨n, q1, q2⟩ := q.2.1; exact Or.inr ⟨by first | exact oq_a634ad6e b28.2 | (clear hps19; omega) | omega, ⟨_, n, q1, Or.inr ⟨q2, by first | exact rfl | (clear hps19; omega) | omega⟩⟩, by first | exact oq_1aa5be9e q.2.2.1 ws12_13 | (clear hps19; omega) | omega, by first | exact oq_1aa5be9e q.2.2.2.1 ws12_15 | (clear hps19; omega) | omega, sam_ts aws12_16 q.2.2.2.2.1, sam_ts aws12_17 q.2.2.2.2.2⟩)⟩⟩⟩
      ·
        refine z_aload_n X (x := A 0) rfl (List.Mem.head _) (s_getR X 0 rfl (c518_ok rfl) rfl rfl (z_getI X 19 rfl (c518_ok rfl) rfl rfl ?_))
        have b29 := bi_12 Is19
        refine z_goto X (t := 64) rfl rfl ?_
        exact w_iret X.1 q hRt rfl (ax_d X (show cdA 137 64 = some (.ireturn, 1, 0, 0, 0) from rfl)) (Nat.zero_le _) (Nat.zero_le _) ⟨A, _, hA, rfl, Is19, Gs19, Or.inl ⟨(iI s19 12), rfl, (rng_to _), ⟨by first | exact oq_333640b7 ws19_0 hps12.1 b14.1 | omega, by first | exact g9 | omega, by first | exact g11 | omega, by first | exact b29.1 | omega, by first | exact hps19p.2 | (clear g27 hps19; omega) | (clear hps19; omega) | omega, by exact Or.elim hps19.1 (fun q => Or.inl ⟨by first | exact b29.1 | (clear g27 hps19; omega) | (clear hps19; omega) | omega, by have z := q.2; rw [show iI s19 12 = (iI s19 12) by first | exact rfl | (clear g27 hps19; omega) | (clear hps19; omega) | omega] at z; exact z⟩) (fun q => by obtain ⟨n, q1, q2⟩ := q.2.1; exact Or.inr ⟨by first | exact oq_e7c7db4f q.1 g27 | (clear g27 hps19; omega) | (clear hps19; omega) | omega, ⟨_, n, q1, Or.inr ⟨q2, by first | exact oq_f791edb0 q.1 g27 | (clear g27 hps19; omega) | (clear hps19; omega) | omega⟩⟩, by first | exact oq_1aa5be9e q.2.2.1 ws12_13 | (clear g27 hps19; omega) | (clear hps19; omega) | omega, by first | exact oq_1aa5be9e q.2.2.2.1 ws12_15 | (clear g27 hps19; omega) | (clear hps19; omega) | omega, sam_ts aws12_16 q.2.2.2.2.1, sam_ts aws12_17 q.2.2.2.2.2⟩)⟩⟩⟩
    ·
      exact z_throw G X E ET hXt q (st := []) rfl (by decide) (by decide) (Nat.le_of_ble_eq_true rfl) (show 0 + 1 ≤ 1 by decide) (show 0 + 6 ≤ 6 by decide) (show 0 + 1 ≤ 1 by decide) (show 0 + 6 ≤ 6 by decide) ⟨A, _, hA, rfl, I, F, Or.inr ⟨0, rfl, ⟨by first | exact rfl | omega, by first | exact rfl | omega, by first | exact b5.1 | omega, by first | exact p1.2 | omega, by first | exact Or.inr (g11) | omega, by first | exact rfl | omega, by first | exact rfl | omega, aw0_16, aw0_17⟩⟩⟩
end M87k4
end
