theorem oq_7be56b0d {a0 a1 : Int} (h0 : a0 ≤ a1) (h1 : a1 ≤ 20) : a0 ≤ 2147483647 := by omega
theorem oq_daa9f991 {a0 a1 : Int} (h0 : a0 ≤ a1) (h1 : a1 ≤ a0) : a0 = a1 := by omega
theorem oq_f5779fc2 {a0 a1 : Int} (h0 : a0 < a1) (h1 : a1 ≤ 20) : a0 ≤ 2147483647 := by omega
theorem oq_e4325605 {a0 a1 : Int} (h0 : a0 = a1) (h1 : a0 ≤ 20) : a1 ≤ 20 := by omega
theorem oq_61c39690 {a0 a1 a2 a3 a4 a5 : Int} (h0 : a0 = 0) (h1 : ((a1 = 1 ∧ (a2 = 0 ∧ (a3 = 1 ∧ a0 = 1))) ∨ ((a1 = 0 ∨ a2 ≠ 0) ∧ (a3 = a2 ∧ ((a0 = 0 ∧ a2 = 0) ∨ (a0 = 1 ∧ a2 ≠ 0)))))) (h2 : ((a4 ≠ 0 ∧ a1 = 0) ∨ (a4 = 0 ∧ a1 = 1))) (h3 : ((a4 = 1 ∧ (0 ≤ a5 ∧ a5 ≤ 20)) ∨ (a4 = 0 ∧ (a5 < 0 ∨ 20 < a5)))) (h4 : a2 = 0) : (a5 = a5 ∧ (0 ≤ a5 ∧ a5 ≤ 20)) := by omega
theorem oq_a4410661 {a0 a1 a2 a3 a4 a5 : Int} (h0 : a0 = 0) (h1 : ((a1 = 1 ∧ (a2 = 0 ∧ (a3 = 1 ∧ a0 = 1))) ∨ ((a1 = 0 ∨ a2 ≠ 0) ∧ (a3 = a2 ∧ ((a0 = 0 ∧ a2 = 0) ∨ (a0 = 1 ∧ a2 ≠ 0)))))) (h2 : ((a4 ≠ 0 ∧ a1 = 0) ∨ (a4 = 0 ∧ a1 = 1))) (h3 : ((a4 = 1 ∧ (0 ≤ a5 ∧ a5 ≤ 20)) ∨ (a4 = 0 ∧ (a5 < 0 ∨ 20 < a5)))) (h4 : a2 = 0) : (0 ≤ 0 ∧ 0 ≤ a5) := by omega
theorem oq_22b05ddc {a0 a1 a2 a3 a4 a5 : Int} (h0 : a0 ≠ 0) (h1 : ((a1 = 1 ∧ (a2 = 0 ∧ (a3 = 1 ∧ a0 = 1))) ∨ ((a1 = 0 ∨ a2 ≠ 0) ∧ (a3 = a2 ∧ ((a0 = 0 ∧ a2 = 0) ∨ (a0 = 1 ∧ a2 ≠ 0)))))) (h2 : ((a4 ≠ 0 ∧ a1 = 0) ∨ (a4 = 0 ∧ a1 = 1))) (h3 : ((a4 = 1 ∧ (0 ≤ a5 ∧ a5 ≤ 20)) ∨ (a4 = 0 ∧ (a5 < 0 ∨ 20 < a5)))) (h4 : a2 = 0) : (a5 < 0 ∨ 20 < a5) := by omega
/-! Moves in a row -/
theorem pcs_c {f f' : Nat → Int} (h : ∀ j, j < 128 → f j = f' j) (p : Int) : pcS f p = pcS f' p := funext (fun x => propext (by
  unfold pcS
  constructor
  · rintro ⟨q, r⟩; exact ⟨q, by rw [← h _ (by omega)]; exact r⟩
  · rintro ⟨q, r⟩; exact ⟨q, by rw [h _ (by omega)]; exact r⟩))
theorem upf_c {f f' : Nat → Int} (h : ∀ j, j < 128 → f j = f' j) (c : Nat) (p : Int) : ∀ j, j < 128 → upF f c p j = upF f' c p j := fun j hj => by
  unfold upF; rw [h j hj]
theorem prs_c {f f' : Nat → Int} (h : ∀ j, j < 128 → f j = f' j) : presF f = presF f' := funext (fun p => by
  unfold presF; rw [pcs_c h])
theorem stp_c {U : AirD} {f f' : Nat → Int} (hw : ∀ x, x < uN U → WOK ((uW U).1 x) ((uW U).2 x)) (h : ∀ j, j < 128 → f j = f' j) : stpC U f = stpC U f' := sm_eq (fun x hx => by
  show uT U x * crsH f ((uW U).1 x) ((uW U).2 x - 1).toNat = uT U x * crsH f' ((uW U).1 x) ((uW U).2 x - 1).toNat
  congr 1
  refine sm_eq (fun k hk => ?_)
  have w := hw x hx
  have e : ∀ j : Nat, (j : Int) < (uW U).2 x → f ((uW U).1 x j).toNat = f' ((uW U).1 x j).toNat := fun j hj => by
    have r := w.2.1 j hj
    exact h _ (by omega)
  have e1 := e k (by omega)
  have e2 := e (k + 1) (by omega)
  simp only [e1, e2])
theorem cst_c {U : AirD} {f f' : Nat → Int} {v : Int} (hw : ∀ x, x < uN U → WOK ((uW U).1 x) ((uW U).2 x)) (h : ∀ j, j < 128 → f j = f' j) (a : CST U f v) : CST U f' v := by
  have e : (fun p : Nat => pkH U (pcS f ((p : Nat) : Int))) = fun p : Nat => pkH U (pcS f' ((p : Nat) : Int)) := funext (fun p => by rw [pcs_c h])
  unfold CST at a ⊢
  rw [e, stp_c hw h, prs_c h] at a
  exact a
theorem cnd_c {f f' : Nat → Int} {c : Nat} {p : Int} (hc : c < 128) (h : ∀ j, j < 128 → f j = f' j) (a : cndF f c p) : cndF f' c p := by
  obtain ⟨a1, a2, d, d0, d1, d2, d3⟩ := a
  have r := adj_rng (a := (c : Int)) ⟨d, d0, d1, rfl, d2⟩ (by omega) (by omega)
  refine ⟨by rw [← h c hc]; exact a1, by rw [← h c hc]; exact a2, d, d0, d1, d2, ?_⟩
  rw [← h _ (by omega)]; exact d3
theorem good_c {U : AirD} {f f' lim lim' : Nat → Int} {c : Nat} {p : Int} (hc : c < 128) (h : ∀ j, j < 128 → f j = f' j) (hl : ∀ j, j < 8 → lim j = lim' j) (hf : 0 ≤ f c ∧ f c ≤ 7) (hp : 0 ≤ p ∧ p ≤ 7) (a : goodF U f lim c p) : goodF U f' lim' c p := by
  unfold goodF at a ⊢
  have u := upf_c h c p
  rw [prs_c u, pcs_c u, pcs_c u, hl _ (by omega), hl _ (by omega), h c hc] at a
  exact a
theorem bsr_c {U : AirD} {f f' lim lim' : Nat → Int} (hw : ∀ x, x < uN U → WOK ((uW U).1 x) ((uW U).2 x)) (h : ∀ j, j < 128 → f j = f' j) (hl : ∀ j, j < 8 → lim j = lim' j) (hf : ∀ j, j < 128 → -1 ≤ f j ∧ f j ≤ 7) : ∀ {i : Nat} {k v : Int}, i ≤ 1024 → BSR U f lim i k v → BSR U f' lim' i k v
  | 0, k, v, _, a => ⟨a.1, cst_c hw h a.2⟩
  | i + 1, k, v, hi, a => by
    obtain ⟨k0, v0, a, b⟩ := a
    refine ⟨k0, v0, bsr_c hw h hl hf (by omega) a, ?_⟩
    have hc : i / 8 < 128 := by omega
    have hp : 0 ≤ ((i % 8 : Nat) : Int) ∧ ((i % 8 : Nat) : Int) ≤ 7 := by omega
    have h' : ∀ j, j < 128 → f' j = f j := fun j hj => (h j hj).symm
    have hl' : ∀ j, j < 8 → lim' j = lim j := fun j hj => (hl j hj).symm
    rcases b with ⟨b1, b2, b3, b4, b5⟩ | ⟨b1, b2, b3⟩
    · have r := hf _ hc
      have n := b1.1
      exact Or.inl ⟨cnd_c hc h b1, good_c hc h hl (by omega) hp b2, cst_c hw (upf_c h _ _) b3, b4, b5⟩
    · refine Or.inr ⟨fun w w1 w2 w3 => ?_, b2, b3⟩
      have r := hf _ hc
      have n := w1.1
      rw [h' _ hc] at n
      exact b1 w (cnd_c hc h' w1) (good_c hc h' hl' (by rw [h' _ hc]; omega) hp w2) (cst_c hw (upf_c h' _ _) w3)
/-- j best moves, one after another -/
def GRW (U : AirD) (lim f : Nat → Int) : Nat → (Nat → Int) → Prop
  | 0, g => g = f
  | j + 1, g => ∃ (g0 : Nat → Int) (c p v : Int), GRW U lim f j g0 ∧ BSR U g0 lim 1024 (8 * c + p) v ∧ (0 ≤ c ∧ c ≤ 127 ∧ 0 ≤ p ∧ p ≤ 7) ∧ g = upF g0 c.toNat p
theorem grw_un {U : AirD} {lim f : Nat → Int} : ∀ {j : Nat} {g g' : Nat → Int}, GRW U lim f j g → GRW U lim f j g' → g = g'
  | 0, _, _, a, b => a.trans b.symm
  | j + 1, g, g', ⟨g0, c, p, v, a1, a2, a3, a4⟩, ⟨g1, c', p', v', b1, b2, b3, b4⟩ => by
    have e := grw_un a1 b1
    rw [← e] at b2 b4
    have z := (bsr_un a2 b2).1
    rw [a4, b4, show c = c' by omega, show p = p' by omega]
theorem grw_pre {U : AirD} {lim f : Nat → Int} : ∀ {n : Nat} {g : Nat → Int} {j : Nat}, GRW U lim f n g → j < n → ∃ (g0 : Nat → Int) (k v : Int), GRW U lim f j g0 ∧ BSR U g0 lim 1024 k v ∧ 0 ≤ k
  | 0, _, j, _, hj => absurd hj (by omega)
  | n + 1, g, j, ⟨g0, c, p, v, a1, a2, a3, a4⟩, hj => by
    by_cases e : j = n
    · rw [e]; exact ⟨g0, 8 * c + p, v, a1, a2, by omega⟩
    · exact grw_pre a1 (by omega)
theorem grw_r {U : AirD} {lim f : Nat → Int} (hf : ∀ j, j < 128 → -1 ≤ f j ∧ f j ≤ 7) : ∀ {n : Nat} {g : Nat → Int}, GRW U lim f n g → ∀ j, j < 128 → -1 ≤ g j ∧ g j ≤ 7
  | 0, _, a => by rw [show _ = f from a]; exact hf
  | n + 1, g, ⟨g0, c, p, v, a1, a2, a3, a4⟩ => by
    rw [a4]; exact upf_r (grw_r hf a1) (by omega)
theorem grw_c {U : AirD} {f f' lim lim' : Nat → Int} (hw : ∀ x, x < uN U → WOK ((uW U).1 x) ((uW U).2 x)) (h : ∀ j, j < 128 → f j = f' j) (hl : ∀ j, j < 8 → lim j = lim' j) (hf : ∀ j, j < 128 → -1 ≤ f j ∧ f j ≤ 7) : ∀ {n : Nat} {g : Nat → Int}, GRW U lim f n g → ∃ g', GRW U lim' f' n g' ∧ ∀ j, j < 128 → g j = g' j
  | 0, g, a => ⟨f', rfl, by rw [show g = f from a]; exact h⟩
  | n + 1, g, ⟨g0, c, p, v, a1, a2, a3, a4⟩ => by
    obtain ⟨g1, b1, b2⟩ := grw_c hw h hl hf a1
    exact ⟨upF g1 c.toNat p, ⟨g1, c, p, v, b1, bsr_c hw b2 hl (grw_r hf a1) (Nat.le_refl _) a2, a3, rfl⟩, by rw [a4]; exact upf_c b2 _ _⟩
/-- what grow answers: how many moves; fewer than x only where there is none left -/
def GRE (U : AirD) (lim f : Nat → Int) (x e : Int) (g : Nat → Int) : Prop := (0 ≤ e ∧ e ≤ x) ∧ GRW U lim f e.toNat g ∧ (e < x → ∃ v, BSR U g lim 1024 (-1) v)
theorem gre_lt {U : AirD} {lim f : Nat → Int} {x e e' : Int} {g g' : Nat → Int} (a : GRE U lim f x e g) (b : GRE U lim f x e' g') (h : e < e') : False := by
  obtain ⟨v, z⟩ := a.2.2 (by have := b.1; omega)
  obtain ⟨g0, k, w, q1, q2, q3⟩ := grw_pre b.2.1 (show e.toNat < e'.toNat by have := a.1; omega)
  rw [grw_un q1 a.2.1] at q2
  have := (bsr_un q2 z).1
  omega
theorem gre_un {U : AirD} {lim f : Nat → Int} {x e e' : Int} {g g' : Nat → Int} (a : GRE U lim f x e g) (b : GRE U lim f x e' g') : e = e' ∧ g = g' := by
  have n1 : ¬ e < e' := fun h => gre_lt a b h
  have n2 : ¬ e' < e := fun h => gre_lt b a h
  have z : e = e' := by omega
  subst z
  exact ⟨rfl, grw_un a.2.1 b.2.1⟩
/-- class and model grow alike -/
theorem gre_eq {U : AirD} {f f' lim lim' : Nat → Int} {x e e' : Int} {g g' : Nat → Int} (hw : ∀ x, x < uN U → WOK ((uW U).1 x) ((uW U).2 x)) (h : ∀ j, j < 128 → f j = f' j) (hl : ∀ j, j < 8 → lim j = lim' j) (hf : ∀ j, j < 128 → -1 ≤ f j ∧ f j ≤ 7) (a : GRE U lim f x e g) (b : GRE U lim' f' x e' g') : e = e' ∧ ∀ j, j < 128 → g j = g' j := by
  obtain ⟨g1, c1, c2⟩ := grw_c hw h hl hf a.2.1
  have c : GRE U lim' f' x e g1 := ⟨a.1, c1, fun q => by
    obtain ⟨v, z⟩ := a.2.2 q
    exact ⟨v, bsr_c hw c2 hl (grw_r hf a.2.1) (Nat.le_refl _) z⟩⟩
  obtain ⟨z1, z2⟩ := gre_un c b
  exact ⟨z1, fun j hj => by rw [← z2]; exact c2 j hj⟩
theorem gre_0 {U : AirD} {lim f : Nat → Int} : GRW U lim f ((0 : Int)).toNat f := rfl
theorem bst_mv {U : AirD} {f lim : Nat → Int} {s : PS} (h : BST U f lim 1024 s) (h0 : 0 ≤ iI s 25) : ∃ v, BSR U f lim 1024 (8 * iI s 25 + iI s 26) v := by
  obtain ⟨k, a, b⟩ := h
  rcases b with b | b
  · exact absurd b.2 (by omega)
  · rw [b.2] at a; exact ⟨_, a⟩
theorem bst_nn {U : AirD} {f lim : Nat → Int} {s : PS} (h : BST U f lim 1024 s) (h0 : iI s 25 = -1) : ∃ v, BSR U f lim 1024 (-1) v := by
  obtain ⟨k, a, b⟩ := h
  rcases b with b | b
  · rw [b.1] at a; exact ⟨_, a⟩
  · exact absurd b.1 (by omega)
theorem bsm_mv {U : AirD} {f lim : Nat → Int} {s : PS} (h : BSM U f lim 1024 s) (h0 : iI s 92 ≠ -1) : 0 ≤ iI s 92 ∧ ∃ v, BSR U f lim 1024 (8 * iI s 92 + iI s 93) v := by
  obtain ⟨k, a, b⟩ := h
  rcases b with b | b
  · exact absurd b.2 h0
  · rw [b.2] at a; exact ⟨b.1, _, a⟩
theorem bsm_nn {U : AirD} {f lim : Nat → Int} {s : PS} (h : BSM U f lim 1024 s) (h0 : iI s 92 = -1) : ∃ v, BSR U f lim 1024 (-1) v := by
  obtain ⟨k, a, b⟩ := h
  rcases b with b | b
  · rw [b.1] at a; exact ⟨_, a⟩
  · exact absurd b.1 (by omega)
theorem grw_up {U : AirD} {lim f g0 g : Nat → Int} {m c p : Int} (h : GRW U lim f m.toNat g0) (m0 : 0 ≤ m) (hb : ∃ v, BSR U g0 lim 1024 (8 * c + p) v) (h1 : 0 ≤ c ∧ c ≤ 127) (h2 : 0 ≤ p ∧ p ≤ 7) (hg : g = upF g0 c.toNat p) : GRW U lim f (m + 1).toNat g := by
  rw [show (m + 1).toNat = m.toNat + 1 by omega]
  obtain ⟨v, hv⟩ := hb
  exact ⟨g0, c, p, v, h, hv, by omega, hg⟩
theorem gre_s {U : AirD} {lim f g g' : Nat → Int} {x e : Int} (h : GRE U lim f x e g) (z : g = g') : GRE U lim f x e g' := z ▸ h
theorem gre_end {U : AirD} {lim f g : Nat → Int} {x c : Int} (h : GRW U lim f c.toNat g) (hc : c = x) (x0 : 0 ≤ x) : GRE U lim f x x g := ⟨⟨x0, Int.le_refl _⟩, hc ▸ h, fun q => absurd q (by omega)⟩
theorem gre_stop {U : AirD} {lim f g : Nat → Int} {x c : Int} (h : GRW U lim f c.toNat g) (hc : 0 ≤ c ∧ c ≤ x) (hb : ∃ v, BSR U g lim 1024 (-1) v) : GRE U lim f x c g := ⟨hc, h, fun _ => hb⟩
section M87z2
variable {l : Launch} {s0 : State} {D : va_G} {tys : List (ClassId × FieldType)} {a0 : Array Value} {A : Nat → Nat} {dT : Nat → ClassId} {s : PS}
set_option maxRecDepth 4000 in
theorem cs_grow3 (G : GX l s0 D tys a0 dT) {U : AirD} (I : Bd s) (jAIR : AIR s) (jCPL : CPL s) (jCDJ : CDJ U s) (jPMJ : PMJ s) (jCCJ : CCJ U s) {u : Int} (p0 : rng u) : CT l s0 D A dT 156 (rmN 156) [.ref (A 0), .int (Int32.ofInt u)] s (fun o t => Bd t ∧ Fm [22, 23, 24, 25, 26, 27] [33, 26, 27, 28, 29, 30, 31, 32, 20, 36, 37, 21, 35, 38, 1022, 1023] s t ∧ PMJ t ∧ ((∃ e, o = .inl (some (.int (Int32.ofInt e))) ∧ rng e ∧ ((0 ≤ u ∧ u ≤ 20) ∧ GRE U (fun j => iC s 24 j) (pfC s) u e (pfC t))) ∨ ∃ x : Nat, o = .inr (exN x) ∧ (x = 0 ∧ (u < 0 ∨ 20 < u) ∧ SAM 21 s t))) := by
  refine ct_ofX G (by decide) (Nat.le_of_ble_eq_true rfl) (fun k X E ET hRt hXt q => ?_)
  show WS k 0 [(0, .ref (A 0)), (1, .int (Int32.ofInt u))] [] _ 0 0
  have F : Fm [22, 23, 24, 25, 26, 27] [33, 26, 27, 28, 29, 30, 31, 32, 20, 36, 37, 21, 35, 38, 1022, 1023] s s := fm_rf _ _ s
  have aw0_21 : SAM 21 s s := sam_rf
  have b1 := bi_25 I
  have b2 := bi_26 I
  have L10 : ∀ (n : Nat) (t : PS) (uv c : Int), Bd t → Fm [22, 23, 24, 25, 26, 27] [33, 26, 27, 28, 29, 30, 31, 32, 20, 36, 37, 21, 35, 38, 1022, 1023] s t → AIR t → CPL t → CDJ U t → PMJ t → CCJ U t → (GRW U (fun j => iC s 24 j) (pfC s) (c : Int).toNat (pfC t)) → ((uv = u ∧ 0 ≤ uv ∧ uv ≤ 20) ∧ 0 ≤ c ∧ c ≤ uv) → (uv - c : Int).toNat < n → (∀ (t' : PS) (c' : Int), Bd t' → Fm [22, 23, 24, 25, 26, 27] [33, 26, 27, 28, 29, 30, 31, 32, 20, 36, 37, 21, 35, 38, 1022, 1023] s t' → AIR t' → CPL t' → CDJ U t' → PMJ t' → CCJ U t' → (GRW U (fun j => iC s 24 j) (pfC s) (c' : Int).toNat (pfC t')) → ((uv = u ∧ 0 ≤ uv ∧ uv ≤ 20) ∧ c' = uv) → WS k 55 [(0, .ref (A 0)), (1, .int (Int32.ofInt uv)), (2, .int (Int32.ofInt c'))] [] (Wd A dT t') 1 6) → WS k 10 [(0, .ref (A 0)), (1, .int (Int32.ofInt uv)), (2, .int (Int32.ofInt c))] [] (Wd A dT t) 1 6 := by
    intro n
    induction n with
    | zero =>
      intro t uv c I F jjAIR jjCPL jjCDJ jjPMJ jjCCJ hq hi hm kx
      exact absurd hm (Nat.not_lt_zero _)
    | succ n ih =>
      intro t uv c I F jjAIR jjCPL jjCDJ jjPMJ jjCCJ hq hi hm kx
      have b1001 := bi_25 I
      have b1002 := bi_26 I
      refine z_load_n X (x := c) rfl (List.Mem.tail _ (List.Mem.tail _ (List.Mem.head _))) (z_load_n X (x := uv) rfl (List.Mem.tail _ (List.Mem.head _)) (z_icmp_ge X (t := 55) rfl rfl ⟨by first | exact oq_fa4e5087 hi.2.1 | omega, by first | exact oq_7be56b0d hi.2.2 hi.1.2.2 | omega⟩ ⟨by first | exact oq_fa4e5087 hi.1.2.1 | omega, by first | exact oq_d1028203 hi.1.2.2 | omega⟩ (fun g1003 => ?_) (fun g1003 => ?_)))
      ·
        refine WS_pq [0, 1, 2] (lv' := [(0, .ref (A 0)), (1, .int (Int32.ofInt uv)), (2, .int (Int32.ofInt c))]) rfl ?_
        exact kx _ c I F jjAIR jjCPL jjCDJ jjPMJ jjCCJ hq (by first | exact ⟨And.intro (hi.1.1) (And.intro (hi.1.2.1) (hi.1.2.2)), oq_daa9f991 hi.2.2 g1003⟩ | omega)
      ·
        refine z_aload_n X (x := A 0) rfl (List.Mem.head _) (s_getR X 0 rfl (c518_ok rfl) rfl rfl (z_callV X 41 (rm := rmN 23) (As := []) (st := []) rfl rfl (by decide) rfl (by rw [E.1, E.2.1, E.2.2.1]; exact c2_seek3 G I jjAIR jjCPL jjCDJ jjPMJ jjCCJ ) ⟨by rw [E.2.2.2]; exact (show (rmN 23).frames + 1 ≤ (rmN 156).frames by decide), by rw [E.2.2.2]; exact (show 8 + (mNL (miB 23) + 11) + (rmN 23).locals ≤ (rmN 156).locals by decide), by rw [E.2.2.2]; exact (show 1 + 0 ≤ 1 by decide), by rw [E.2.2.2]; exact (show 6 + 0 ≤ 6 by decide)⟩ (Nat.le_of_ble_eq_true rfl) (fun vv s1004 hq => ?_) (fun ee s1004 hq => ?_)))
        rotate_left
        · obtain ⟨Is1004, Fs1004, JPMJ_s1004, e1005, hv, hrs1004, hps1004⟩ := hq; cases hv
        obtain ⟨Is1004, Fs1004, JPMJ_s1004, e1005, hv, hrs1004, hps1004⟩ := hq
        have hps1004p := And.intro hps1004.2.1 (hps1004.2.2.1)
        cases hv
        have Gs1004 := fm_tq F Fs1004 rfl rfl
        have JAIR_s1004 : AIR s1004 := AIR_fm Fs1004 (by decide) jjAIR
        have JCPL_s1004 : CPL s1004 := CPL_fm Fs1004 (by decide) jjCPL
        have JCDJ_s1004 : CDJ U s1004 := CDJ_fm Fs1004 (by decide) jjCDJ
        have JCCJ_s1004 : CCJ U s1004 := CCJ_fm Fs1004 (by decide) jjCCJ
        have b1006 := bi_25 Is1004
        have b1007 := bi_26 Is1004
        show WS k 22 [(0, .ref (A 0)), (1, .int (Int32.ofInt uv)), (2, .int (Int32.ofInt c))] [.int (Int32.ofInt e1005)] (Wd A dT s1004) 1 6
        have hB : BST U (pfC t) (fun j => iC s 24 j) 1024 s1004 := bst_c hps1004.2.2.1 rfl (show (fun j => iC t 24 j) = (fun j => iC s 24 j) from funext (fun j => fm_c F (by decide))) rfl
        have hS1 : pfC s1004 = pfC t := funext hps1004.2.1
        refine z_if_ne X (t := 27) rfl rfl hrs1004 (fun g1008 => ?_) (fun g1008 => ?_)
        ·
          refine z_aload_n X (x := A 0) rfl (List.Mem.head _) (s_getR X 0 rfl (c518_ok rfl) rfl rfl (z_aload_n X (x := A 0) rfl (List.Mem.head _) (s_getR X 0 rfl (c518_ok rfl) rfl rfl (z_getI X 41 rfl (c518_ok rfl) rfl rfl ?_))))
          have b1009 := bi_25 Is1004
          refine z_aload_n X (x := A 0) rfl (List.Mem.head _) (s_getR X 0 rfl (c518_ok rfl) rfl rfl (z_getI X 41 rfl (c518_ok rfl) rfl rfl ?_))
          have b1010 := bi_26 Is1004
          refine z_callV X 25 (rm := rmN 28) (As := [.int (Int32.ofInt (iI s1004 25)), .int (Int32.ofInt (iI s1004 26))]) (st := []) rfl rfl (by decide) rfl (by rw [E.1, E.2.1, E.2.2.1]; exact c3_put3 G Is1004 JPMJ_s1004 (by first | exact ⟨by first | (clear g1008 hps1004; omega) | (clear hps1004; omega) | omega, b1009.2⟩ | omega) (by first | exact ⟨oq_ca54ea22 b1010.1, b1010.2⟩ | omega)) ⟨by rw [E.2.2.2]; exact (show (rmN 28).frames + 1 ≤ (rmN 156).frames by decide), by rw [E.2.2.2]; exact (show 8 + (mNL (miB 28) + 11) + (rmN 28).locals ≤ (rmN 156).locals by decide), by rw [E.2.2.2]; exact (show 1 + 0 ≤ 1 by decide), by rw [E.2.2.2]; exact (show 6 + 0 ≤ 6 by decide)⟩ (Nat.le_of_ble_eq_true rfl) (fun vv s1011 hq => ?_) (fun ee s1011 hq => ?_)
          rotate_left
          · obtain ⟨Is1011, Fs1011, JPMJ_s1011, e1012, hv, hrs1011, hps1011⟩ := hq; cases hv
          obtain ⟨Is1011, Fs1011, JPMJ_s1011, e1012, hv, hrs1011, hps1011⟩ := hq
          cases hv
          have Gs1011 := fm_tq Gs1004 Fs1011 rfl rfl
          have JAIR_s1011 : AIR s1011 := AIR_fm Fs1011 (by decide) JAIR_s1004
          have JCPL_s1011 : CPL s1011 := CPL_fm Fs1011 (by decide) JCPL_s1004
          have JCDJ_s1011 : CDJ U s1011 := CDJ_fm Fs1011 (by decide) JCDJ_s1004
          have JCCJ_s1011 : CCJ U s1011 := CCJ_fm Fs1011 (by decide) JCCJ_s1004
          have ws1011_25 : iI s1011 25 = iI s1004 25 := fm_iq Fs1011 rfl
          have ws1011_26 : iI s1011 26 = iI s1004 26 := fm_iq Fs1011 rfl
          show WS k 48 [(0, .ref (A 0)), (1, .int (Int32.ofInt uv)), (2, .int (Int32.ofInt c))] [.int (Int32.ofInt e1012)] (Wd A dT s1011) 1 6
          refine w_pop X.1 (ax_d X (show cdA 156 48 = some (.pop, 1, 0, 0, 0) from rfl)) rfl (z_inc X (x := c) (lv' := [(2, .int (Int32.ofInt (c + 1))), (0, .ref (A 0)), (1, .int (Int32.ofInt uv))]) rfl (by decide) (List.Mem.tail _ (List.Mem.tail _ (List.Mem.head _))) (fun _ h => h) (z_goto X (t := 10) rfl rfl (WS_pq [1, 2, 0] (lv' := [(0, .ref (A 0)), (1, .int (Int32.ofInt uv)), (2, .int (Int32.ofInt (c + 1)))]) rfl ?_)))
          exact ih _ uv (c + 1) Is1011 Gs1011 JAIR_s1011 JCPL_s1011 JCDJ_s1011 JPMJ_s1011 JCCJ_s1011 (grw_up hq (by first | (clear g1008 hps1004; omega) | (clear hps1004; omega) | omega) (bst_mv hB (by first | (clear g1008 hps1004; omega) | (clear hps1004; omega) | omega)) (by first | (clear g1008 hps1004; omega) | (clear hps1004; omega) | omega) (by first | (clear g1008 hps1004; omega) | (clear hps1004; omega) | omega) (by rw [upf_upd hps1011.2, hS1])) (by first | exact ⟨And.intro (hi.1.1) (And.intro (hi.1.2.1) (hi.1.2.2)), oq_54f49eb5 hi.2.1, oq_afc84a8d g1003⟩ | omega) (by first | exact qk_me hm (by decide) (oq_901836cd g1003) | omega) kx
        ·
          refine z_load_n X (x := c) rfl (List.Mem.tail _ (List.Mem.tail _ (List.Mem.head _))) ?_
          exact w_iret X.1 q hRt rfl (ax_d X (show cdA 156 26 = some (.ireturn, 1, 0, 0, 0) from rfl)) (show 1 ≤ 1 by decide) (show 6 ≤ 6 by decide) ⟨_, rfl, Is1004, Gs1004, JPMJ_s1004, Or.inl ⟨c, rfl, ⟨by first | exact oq_fa4e5087 hi.2.1 | omega, by first | exact oq_f5779fc2 g1003 hi.1.2.2 | omega⟩, ⟨by first | exact ⟨oq_151a919a hi.1.1 hi.1.2.1, oq_e4325605 hi.1.1 hi.1.2.2⟩ | omega, gre_s (gre_stop (x := u) hq (by first | (clear hps1004; omega) | omega) (bst_nn hB (by first | (clear hps1004; omega) | omega))) hS1.symm⟩⟩⟩
  refine z_aload_n X (x := A 0) rfl (List.Mem.head _) (z_load_n X (x := u) rfl (List.Mem.tail _ (List.Mem.head _)) (z_const X rfl (z_bipush X rfl (z_callV X 0 (rm := rmN 184) (As := [.int (Int32.ofInt u), .int (Int32.ofInt 0), .int (Int32.ofInt 20)]) (st := []) rfl rfl (by decide) rfl (by rw [E.1, E.2.1, E.2.2.1]; exact cs_needWithin2 G I (by first | exact ⟨p0.1, p0.2⟩ | omega) (by first | exact ⟨by decide, by decide⟩ | omega) (by first | exact ⟨by decide, by decide⟩ | omega)) ⟨by rw [E.2.2.2]; exact (show (rmN 184).frames + 1 ≤ (rmN 156).frames by decide), by rw [E.2.2.2]; exact (show 8 + (mNL (miB 184) + 11) + (rmN 184).locals ≤ (rmN 156).locals by decide), by rw [E.2.2.2]; exact (show 0 + 1 ≤ 1 by decide), by rw [E.2.2.2]; exact (show 0 + 6 ≤ 6 by decide)⟩ (Nat.le_of_ble_eq_true rfl) (fun vv s3 hq => ?_) (fun ee s3 hq => ?_)))))
  rotate_left
  · obtain ⟨Is3, Fs3, (⟨hv, hps3⟩ | ⟨xx, hv, hps3⟩)⟩ := hq
    · cases hv
    · cases hv
      have Gs3 := fm_tq F Fs3 rfl rfl
      have JAIR_s3 : AIR s3 := AIR_fm Fs3 (by decide) jAIR
      have JCPL_s3 : CPL s3 := CPL_fm Fs3 (by decide) jCPL
      have JCDJ_s3 : CDJ U s3 := CDJ_fm Fs3 (by decide) jCDJ
      have JPMJ_s3 : PMJ s3 := PMJ_fm Fs3 (by decide) jPMJ
      have JCCJ_s3 : CCJ U s3 := CCJ_fm Fs3 (by decide) jCCJ
      have ws3_25 : iI s3 25 = iI s 25 := fm_iq Fs3 rfl
      have ws3_26 : iI s3 26 = iI s 26 := fm_iq Fs3 rfl
      have aws3_21 : SAM 21 s s3 := sam_ts aw0_21 (sam_fm Fs3 (by decide))
      exact x_out X.1 q (fun x hx => (hXt x hx).elim) (show 1 ≤ 1 by decide) (show 6 ≤ 6 by decide) ⟨_, rfl, Is3, Gs3, JPMJ_s3, Or.inr ⟨xx, rfl, ⟨by omega, by omega, aws3_21⟩⟩⟩
  obtain ⟨Is3, Fs3, (⟨hv, hps3⟩ | ⟨xx, hv, hps3⟩)⟩ := hq
  rotate_left
  · cases hv
  cases hv
  have Gs3 := fm_tq F Fs3 rfl rfl
  have JAIR_s3 : AIR s3 := AIR_fm Fs3 (by decide) jAIR
  have JCPL_s3 : CPL s3 := CPL_fm Fs3 (by decide) jCPL
  have JCDJ_s3 : CDJ U s3 := CDJ_fm Fs3 (by decide) jCDJ
  have JPMJ_s3 : PMJ s3 := PMJ_fm Fs3 (by decide) jPMJ
  have JCCJ_s3 : CCJ U s3 := CCJ_fm Fs3 (by decide) jCCJ
  have ws3_25 : iI s3 25 = iI s 25 := fm_iq Fs3 rfl
  have ws3_26 : iI s3 26 = iI s 26 := fm_iq Fs3 rfl
  have aws3_21 : SAM 21 s s3 := sam_ts aw0_21 (sam_fm Fs3 (by decide))
  show WS k 8 [(0, .ref (A 0)), (1, .int (Int32.ofInt u))] [] (Wd A dT s3) 1 6
  refine z_const X rfl (z_store_n X (lv' := [(2, .int (Int32.ofInt 0)), (0, .ref (A 0)), (1, .int (Int32.ofInt u))]) rfl (by decide) (fun _ h => h) (WS_pq [1, 2, 0] (lv' := [(0, .ref (A 0)), (1, .int (Int32.ofInt u)), (2, .int (Int32.ofInt 0))]) rfl (L10 ((u - 0 : Int).toNat + 1) s3 u 0 Is3 Gs3 JAIR_s3 JCPL_s3 JCDJ_s3 JPMJ_s3 JCCJ_s3 (by have z : pfC s3 = pfC s := funext aws3_21; rw [z]; exact gre_0) (by first | exact ⟨And.intro (by decide) (And.intro (hps3.1) (hps3.2)), by decide, hps3.1⟩ | omega) (Nat.lt_succ_self _) ?_)))
  intro s5 x6 Is5 Fs5 JAIR_s5 JCPL_s5 JCDJ_s5 JPMJ_s5 JCCJ_s5 Qs5 hs5
  have b7 := bi_25 Is5
  have b8 := bi_26 Is5
  refine z_load_n X (x := u) rfl (List.Mem.tail _ (List.Mem.head _)) ?_
  exact w_iret X.1 q hRt rfl (ax_d X (show cdA 156 56 = some (.ireturn, 1, 0, 0, 0) from rfl)) (show 1 ≤ 1 by decide) (show 6 ≤ 6 by decide) ⟨_, rfl, Is5, Fs5, JPMJ_s5, Or.inl ⟨u, rfl, ⟨by first | exact p0.1 | omega, by first | exact p0.2 | omega⟩, ⟨by first | exact ⟨hs5.1.2.1, hs5.1.2.2⟩ | omega, gre_end Qs5 (by first | (clear hps3; omega) | omega) (by first | (clear hps3; omega) | omega)⟩⟩⟩
set_option maxRecDepth 4000 in
theorem k_grow3 (G : GX l s0 D tys a0 dT) {U : AirD} (I : Bd s) (jRLx : RLx s) (jMDJ : MDJ U s) {x : Int} (p0 : rng x) (p1 : iI s 89 = 1) : CT l s0 D A dT 257 (rmN 257) [.ref (A 179), .int (Int32.ofInt x)] s (fun o t => Bd t ∧ Fm [73, 77, 75, 78, 79, 80, 81, 92, 93, 94] [202, 204, 205, 206, 207, 208, 209, 210, 211, 212, 213, 214, 215, 216, 217, 218, 219, 220, 221, 222, 223, 224, 225, 226, 227, 203, 161, 230, 233, 231, 232, 228] s t ∧ RLx t ∧ ∃ e, o = .inl (some (.int (Int32.ofInt e))) ∧ rng e ∧ ((0 ≤ x ∧ x ≤ 20 ∧ iI t 73 = 0 ∧ iI t 89 = 1 ∧ GRE U (fun j => iC s 229 j) (pfM s) x e (pfM t)) ∨ ((x < 0 ∨ 20 < x) ∧ iI t 73 = 1 ∧ SAM 228 s t ∧ iI t 89 = 1))) := by
  refine ct_of G (by decide) (Nat.le_of_ble_eq_true rfl) (fun k X E hRt hXt q => ?_)
  show WS k 0 [(0, .ref (A 179)), (1, .int (Int32.ofInt x))] [] _ 0 0
  have F : Fm [73, 77, 75, 78, 79, 80, 81, 92, 93, 94] [202, 204, 205, 206, 207, 208, 209, 210, 211, 212, 213, 214, 215, 216, 217, 218, 219, 220, 221, 222, 223, 224, 225, 226, 227, 203, 161, 230, 233, 231, 232, 228] s s := fm_rf _ _ s
  have aw0_228 : SAM 228 s s := sam_rf
  have b1 := bi_73 I
  have b2 := bi_92 I
  have b3 := bi_93 I
  have b4 := bi_89 I
  have L32 : ∀ (n : Nat) (t : PS) (xv ka : Int), Bd t → Fm [73, 77, 75, 78, 79, 80, 81, 92, 93, 94] [202, 204, 205, 206, 207, 208, 209, 210, 211, 212, 213, 214, 215, 216, 217, 218, 219, 220, 221, 222, 223, 224, 225, 226, 227, 203, 161, 230, 233, 231, 232, 228] s t → RLx t → MDJ U t → (GRW U (fun j => iC s 229 j) (pfM s) (ka : Int).toNat (pfM t)) → ((xv = x ∧ 0 ≤ xv ∧ xv ≤ 20) ∧ (0 ≤ ka ∧ ka ≤ xv) ∧ iI t 73 = 0 ∧ iI t 89 = 1) → (xv - ka : Int).toNat < n → (∀ (t' : PS) (ka' : Int), Bd t' → Fm [73, 77, 75, 78, 79, 80, 81, 92, 93, 94] [202, 204, 205, 206, 207, 208, 209, 210, 211, 212, 213, 214, 215, 216, 217, 218, 219, 220, 221, 222, 223, 224, 225, 226, 227, 203, 161, 230, 233, 231, 232, 228] s t' → RLx t' → MDJ U t' → (GRW U (fun j => iC s 229 j) (pfM s) (ka' : Int).toNat (pfM t')) → ((xv = x ∧ 0 ≤ xv ∧ xv ≤ 20) ∧ ka' = xv ∧ iI t' 73 = 0 ∧ iI t' 89 = 1) → WS k 70 [(0, .ref (A 179)), (1, .int (Int32.ofInt xv)), (2, .int (Int32.ofInt ka'))] [] (Wd A dT t') 0 0) → WS k 32 [(0, .ref (A 179)), (1, .int (Int32.ofInt xv)), (2, .int (Int32.ofInt ka))] [] (Wd A dT t) 0 0 := by
    intro n
    induction n with
    | zero =>
      intro t xv ka I F jjRLx jjMDJ hq hi hm kx
      exact absurd hm (Nat.not_lt_zero _)
    | succ n ih =>
      intro t xv ka I F jjRLx jjMDJ hq hi hm kx
      have b1001 := bi_73 I
      have b1002 := bi_92 I
      have b1003 := bi_93 I
      have b1004 := bi_89 I
      refine z_load_n X (x := ka) rfl (List.Mem.tail _ (List.Mem.tail _ (List.Mem.head _))) (z_load_n X (x := xv) rfl (List.Mem.tail _ (List.Mem.head _)) (z_icmp_ge X (t := 70) rfl rfl ⟨by first | exact oq_fa4e5087 hi.2.1.1 | omega, by first | exact oq_7be56b0d hi.2.1.2 hi.1.2.2 | omega⟩ ⟨by first | exact oq_fa4e5087 hi.1.2.1 | omega, by first | exact oq_d1028203 hi.1.2.2 | omega⟩ (fun g1005 => ?_) (fun g1005 => ?_)))
      ·
        refine WS_pq [0, 1, 2] (lv' := [(0, .ref (A 179)), (1, .int (Int32.ofInt xv)), (2, .int (Int32.ofInt ka))]) rfl ?_
        exact kx _ ka I F jjRLx jjMDJ hq (by first | exact ⟨And.intro (hi.1.1) (And.intro (hi.1.2.1) (hi.1.2.2)), oq_daa9f991 hi.2.1.2 g1005, hi.2.2.1, hi.2.2.2⟩ | omega)
      ·
        refine z_aload_n X (x := A 179) rfl (List.Mem.head _) (zcV_v1 X E 179 (As := []) (st := []) rfl rfl rfl rfl (k_findMove3 G I jjRLx jjMDJ (by first | exact hi.2.2.2 | omega)) rfl (Nat.le_of_ble_eq_true rfl) (fun s1006 Is1006 Fs1006 JRLx_s1006 hps1006 => ?_))
        have Gs1006 := fm_tq F Fs1006 rfl rfl
        have JRLx_s1006 : RLx s1006 := RLx_fm Fs1006 (by decide) jjRLx
        have JMDJ_s1006 : MDJ U s1006 := MDJ_fm Fs1006 (by decide) jjMDJ
        have ws1006_73 : iI s1006 73 = iI t 73 := fm_iq Fs1006 rfl
        have b1008 := bi_92 Is1006
        have b1009 := bi_93 Is1006
        have ws1006_89 : iI s1006 89 = iI t 89 := fm_iq Fs1006 rfl
        have hB : BSM U (pfM t) (fun j => iC s 229 j) 1024 s1006 := bsm_c hps1006.1 rfl (show (fun j => iC t 229 j) = (fun j => iC s 229 j) from funext (fun j => fm_c F (by decide))) rfl
        have hS1 : pfM s1006 = pfM t := funext hps1006.2.1
        refine z_aload_n X (x := A 179) rfl (List.Mem.head _) (z_getI X 179 rfl (c518_ok rfl) rfl rfl ?_)
        have b1010 := bi_92 Is1006
        refine z_const X rfl (z_icmp_ne X (t := 51) rfl rfl (rng_to _) (by decide) (fun g1011 => ?_) (fun g1011 => ?_))
        ·
          have hM := bsm_mv hB (by first | (clear g1011; omega) | omega)
          refine z_aload_n X (x := A 179) rfl (List.Mem.head _) (s_getR X 179 rfl (c518_ok rfl) rfl rfl (z_aload_n X (x := A 179) rfl (List.Mem.head _) (z_getI X 179 rfl (c518_ok rfl) rfl rfl ?_)))
          have b1012 := bi_92 Is1006
          refine z_aload_n X (x := A 179) rfl (List.Mem.head _) (z_getI X 179 rfl (c518_ok rfl) rfl rfl ?_)
          have b1013 := bi_93 Is1006
          refine z_ast X 256 rfl (c518_ok rfl) rfl (by first | exact oq_5234833b b1012.1 g1011 | omega) (show (iI s1006 92) < 128 by first | exact oq_31b2bf10 b1012.2 | omega) (cbig_ok rfl) (wd_gen (fun s1014 hs1014 => ?_))
          have Is1014 : Bd s1014 := eqB hs1014 (bd_C Is1006 (show ((-1) : Int) ≤ (iI s1006 93) ∧ (iI s1006 93) ≤ 7 by first | exact ⟨oq_ca54ea22 b1013.1, b1013.2⟩ | omega) (rng_to _))
          have Fs1014 := eqF hs1014 (fm_C Gs1006 (inl_ok (a := 228) rfl))
          have ws1014_73 : iI s1014 73 = iI s1006 73 := eqI hs1014 rfl
          have ws1014_92 : iI s1014 92 = iI s1006 92 := eqI hs1014 rfl
          have ws1014_93 : iI s1014 93 = iI s1006 93 := eqI hs1014 rfl
          have ws1014_89 : iI s1014 89 = iI s1006 89 := eqI hs1014 rfl
          have aws1014_228 : UPD 228 ((iI s1006 92)) (iI s1006 93) s1006 s1014 := by rw [hs1014]; exact upd_put (sam_rf (a := 228) (s := s1006)) (rng_to _)
          have fs1014 : Fm [] [228] s1006 s1014 := by rw [hs1014]; exact fm_C (fm_rf _ _ _) (show 228 ∈ _ by decide)
          have JRLx_s1014 : RLx s1014 := RLx_fm fs1014 (by decide) JRLx_s1006
          have JMDJ_s1014 : MDJ U s1014 := MDJ_fm fs1014 (by decide) JMDJ_s1006
          refine z_inc X (x := ka) (lv' := [(2, .int (Int32.ofInt (ka + 1))), (0, .ref (A 179)), (1, .int (Int32.ofInt xv))]) rfl (by decide) (List.Mem.tail _ (List.Mem.tail _ (List.Mem.head _))) (fun _ h => h) (z_goto X (t := 32) rfl rfl (WS_pq [1, 2, 0] (lv' := [(0, .ref (A 179)), (1, .int (Int32.ofInt xv)), (2, .int (Int32.ofInt (ka + 1)))]) rfl ?_))
          exact ih _ xv (ka + 1) Is1014 Fs1014 JRLx_s1014 JMDJ_s1014 (grw_up hq (by first | (clear g1011; omega) | omega) hM.2 (by first | (clear g1011; omega) | omega) (by first | (clear g1011; omega) | omega) (by rw [upm_upd aws1014_228, hS1])) (by first | exact ⟨And.intro (hi.1.1) (And.intro (hi.1.2.1) (hi.1.2.2)), And.intro (oq_54f49eb5 hi.2.1.1) (oq_afc84a8d g1005), oq_7fe879e0 ws1014_73 ws1006_73 hi.2.2.1 b1001.1, oq_f34933ba ws1014_89 ws1006_89 hi.2.2.2 b1004.1⟩ | omega) (by first | exact qk_me hm (by decide) (oq_901836cd g1005) | omega) kx
        ·
          refine z_load_n X (x := ka) rfl (List.Mem.tail _ (List.Mem.tail _ (List.Mem.head _))) ?_
          exact w_iret X.1 q hRt rfl (ax_d X (show cdA 257 50 = some (.ireturn, 1, 0, 0, 0) from rfl)) (Nat.zero_le _) (Nat.zero_le _) ⟨_, rfl, Is1006, Gs1006, JRLx_s1006, ka, rfl, ⟨by first | exact oq_fa4e5087 hi.2.1.1 | omega, by first | exact oq_f5779fc2 g1005 hi.1.2.2 | omega⟩, (Or.inl ⟨by first | exact oq_151a919a hi.1.1 hi.1.2.1 | omega, by first | exact oq_e4325605 hi.1.1 hi.1.2.2 | omega, by first | exact oq_333640b7 ws1006_73 hi.2.2.1 b1001.1 | omega, by first | exact oq_b44a1c7f ws1006_89 hi.2.2.2 b1004.1 | omega, gre_s (gre_stop (x := x) hq (by omega) (bsm_nn hB (by omega))) hS1.symm⟩)⟩
  refine z_aload_n X (x := A 179) rfl (List.Mem.head _) (z_const X rfl (s_putI X 179 rfl (c518_ok rfl) rfl rfl (by decide) rfl rfl rfl (wd_gen (fun s5 hs5 => ?_))))
  have Is5 : Bd s5 := eqB hs5 (bd_I I (show (0 : Int) ≤ 0 ∧ 0 ≤ 3 by first | exact ⟨by decide, by decide⟩ | omega) (by decide))
  have Fs5 := eqF hs5 (fm_I F (inl_ok (a := 73) rfl))
  have vs5 : iI s5 73 = 0 := eqI hs5 (iI_u (by decide))
  have ws5_92 : iI s5 92 = iI s 92 := eqI hs5 rfl
  have ws5_93 : iI s5 93 = iI s 93 := eqI hs5 rfl
  have ws5_89 : iI s5 89 = iI s 89 := eqI hs5 rfl
  have aws5_228 : SAM 228 s s5 := by rw [hs5]; exact aw0_228
  have fs5 : Fm [73] [] s s5 := by rw [hs5]; exact fm_I (fm_rf _ _ _) (show 73 ∈ _ by decide)
  have JRLx_s5 : RLx s5 := RLx_fm fs5 (by decide) jRLx
  have JMDJ_s5 : MDJ U s5 := MDJ_fm fs5 (by decide) jMDJ
  refine z_aload_n X (x := A 179) rfl (List.Mem.head _) (z_load_n X (x := x) rfl (List.Mem.tail _ (List.Mem.head _)) (z_const X rfl (z_bipush X rfl (z_callS X (rm := rmN 188) (As := [.int (Int32.ofInt x), .int (Int32.ofInt 0), .int (Int32.ofInt 20)]) (st := [.ref (A 179)]) rfl rfl (by rw [E.1, E.2.1, E.2.2.1]; exact k_in2 G Is5 (by first | exact ⟨p0.1, p0.2⟩ | omega) (by first | exact ⟨by decide, by decide⟩ | omega) (by first | exact ⟨by decide, by decide⟩ | omega)) ⟨by rw [E.2.2.2]; exact (show (rmN 188).frames + 1 ≤ (rmN 257).frames by decide), by rw [E.2.2.2]; exact (show 8 + (mNL (miB 188) + 11) + (rmN 188).locals ≤ (rmN 257).locals by decide), by rw [E.2.2.2]; exact (show 0 + (rmN 188).cells ≤ (rmN 257).cells by decide), by rw [E.2.2.2]; exact (show 0 + (rmN 188).slots ≤ (rmN 257).slots by decide)⟩ (Nat.le_of_ble_eq_true rfl) (fun vv s6 hq => ?_) (fun ee s6 hq => ?_)))))
  rotate_left
  · obtain ⟨rfl, e7, hv, hrs6, hps6⟩ := hq; cases hv
  obtain ⟨rfl, e7, hv, hrs6, hps6⟩ := hq
  cases hv
  show WS k 13 [(0, .ref (A 179)), (1, .int (Int32.ofInt x))] [.int (Int32.ofInt e7), .ref (A 179)] (Wd A dT s5) 0 0
  have N8 : ∀ e9 : Int, (((e7 ≠ 0) ∧ e9 = 0) ∨ ((e7 = 0) ∧ e9 = 1)) → WS k 21 [(0, .ref (A 179)), (1, .int (Int32.ofInt x))] [.int (Int32.ofInt e9), .ref (A 179)] (Wd A dT s5) 0 0 := by
    intro e9 he9
    have re9 : 0 ≤ e9 ∧ e9 ≤ 1 := by first | (clear he9 hps6; omega) | (clear hps6; omega) | omega
    refine z_const X rfl (zcV_i0 X E 179 (As := [.int (Int32.ofInt e9), .int (Int32.ofInt 1)]) (st := []) rfl rfl rfl rfl (k_bad2 G Is5 (by first | exact oq_31e518ae re9.2 re9.1 | omega) (by first | exact ⟨by decide, by decide⟩ | omega)) rfl (Nat.le_of_ble_eq_true rfl) (fun s10 e11 Is10 Fs10 hrs10 hps10 => ?_))
    have Gs10 := fm_tq Fs5 Fs10 rfl rfl
    have JRLx_s10 : RLx s10 := RLx_fm Fs10 (by decide) JRLx_s5
    have JMDJ_s10 : MDJ U s10 := MDJ_fm Fs10 (by decide) JMDJ_s5
    have b12 := bi_73 Is10
    have ws10_92 : iI s10 92 = iI s5 92 := fm_iq Fs10 rfl
    have ws10_93 : iI s10 93 = iI s5 93 := fm_iq Fs10 rfl
    have ws10_89 : iI s10 89 = iI s5 89 := fm_iq Fs10 rfl
    have aws10_228 : SAM 228 s s10 := sam_ts aws5_228 (sam_fm Fs10 (by decide))
    refine z_if_eq X (t := 30) rfl rfl hrs10 (fun g13 => ?_) (fun g13 => ?_)
    ·
      refine z_const X rfl (z_store_n X (lv' := [(2, .int (Int32.ofInt 0)), (0, .ref (A 179)), (1, .int (Int32.ofInt x))]) rfl (by decide) (fun _ h => h) (WS_pq [1, 2, 0] (lv' := [(0, .ref (A 179)), (1, .int (Int32.ofInt x)), (2, .int (Int32.ofInt 0))]) rfl (L32 ((x - 0 : Int).toNat + 1) s10 x 0 Is10 Gs10 JRLx_s10 JMDJ_s10 (by have z : pfM s10 = pfM s := funext aws10_228; rw [z]; exact gre_0) (by first | exact ⟨oq_61c39690 g13 hps10 he9 hps6 vs5, oq_a4410661 g13 hps10 he9 hps6 vs5, oq_9f99e80f g13 b12.1 hps10 vs5, oq_f34933ba ws10_89 ws5_89 p1 b4.1⟩ | omega) (Nat.lt_succ_self _) ?_)))
      intro s14 x15 Is14 Fs14 JRLx_s14 JMDJ_s14 Qs14 hs14
      have b16 := bi_73 Is14
      have b17 := bi_92 Is14
      have b18 := bi_93 Is14
      have b19 := bi_89 Is14
      refine z_load_n X (x := x) rfl (List.Mem.tail _ (List.Mem.head _)) ?_
      exact w_iret X.1 q hRt rfl (ax_d X (show cdA 257 71 = some (.ireturn, 1, 0, 0, 0) from rfl)) (Nat.zero_le _) (Nat.zero_le _) ⟨_, rfl, Is14, Fs14, JRLx_s14, x, rfl, ⟨by first | exact p0.1 | omega, by first | exact p0.2 | omega⟩, (Or.inl ⟨by first | exact hs14.1.2.1 | omega, by first | exact hs14.1.2.2 | omega, by first | exact hs14.2.2.1 | omega, by first | exact hs14.2.2.2 | omega, gre_end Qs14 (by first | (clear hps10 he9 hps6; omega) | (clear he9 hps6; omega) | omega) (by first | (clear hps10 he9 hps6; omega) | (clear he9 hps6; omega) | omega)⟩)⟩
    ·
      refine z_const X rfl ?_
      exact w_iret X.1 q hRt rfl (ax_d X (show cdA 257 29 = some (.ireturn, 1, 0, 0, 0) from rfl)) (Nat.zero_le _) (Nat.zero_le _) ⟨_, rfl, Is10, Gs10, JRLx_s10, 0, rfl, (by decide), (Or.inr ⟨by first | exact oq_22b05ddc g13 hps10 he9 hps6 vs5 | omega, by first | exact oq_58a3c280 g13 hps10 vs5 | omega, aws10_228, by first | exact oq_f34933ba ws10_89 ws5_89 p1 b4.1 | omega⟩)⟩
  refine z_if_ne X (t := 20) rfl rfl hrs6 (fun g20 => ?_) (fun g20 => ?_)
  ·
    exact z_const X rfl (N8 _ (Or.inl ⟨g20, rfl⟩))
  ·
    exact z_const X rfl (z_goto X (t := 21) rfl rfl (N8 _ (Or.inr (⟨g20, rfl⟩))))
end M87z2
