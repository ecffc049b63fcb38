section

theorem oq_58be8290 {a0 : Int} {n1 : Nat} (h0 : a0 < ((n1 : Nat) : Int)) (h1 : 0 ≤ a0) : (a0 : Int).toNat < n1 := by omega
theorem oq_a3593015 {n0 : Nat}  : 0 ≤ ((n0 : Nat) : Int) := by omega
theorem oq_423f334e {n0 : Nat} (h0 : n0 ≤ 1000) : ((n0 : Nat) : Int) ≤ 100000 := by omega
theorem oq_275f6cf4 {a0 a1 a2 a3 : Int} (h0 : ((a0 ≤ 0 ∧ a1 = 0) ∨ ((0 < a0 ∧ ((0 ≤ a2 ∧ a2 ≤ 5) ∧ ((0 ≤ a3 ∧ a3 ≤ 5) ∧ (a2 = a3 ∧ a1 = 0)))) ∨ (0 < a0 ∧ ((0 ≤ a2 ∧ a2 ≤ 5) ∧ ((0 ≤ a3 ∧ a3 ≤ 5) ∧ (a2 ≠ a3 ∧ a1 = 1))))))) : 0 ≤ a1 := by omega
theorem oq_54a85c79 {a0 a1 a2 a3 : Int} (h0 : ((a0 ≤ 0 ∧ a1 = 0) ∨ ((0 < a0 ∧ ((0 ≤ a2 ∧ a2 ≤ 5) ∧ ((0 ≤ a3 ∧ a3 ≤ 5) ∧ (a2 = a3 ∧ a1 = 0)))) ∨ (0 < a0 ∧ ((0 ≤ a2 ∧ a2 ≤ 5) ∧ ((0 ≤ a3 ∧ a3 ≤ 5) ∧ (a2 ≠ a3 ∧ a1 = 1))))))) : a1 ≤ 1 := by omega
theorem oq_1c1a0929 {a0 : Int} {n1 : Nat} (h0 : a0 < 24) (h1 : ((24 - a0) : Int).toNat < (n1 + 1)) : ((24 - (a0 + 1)) : Int).toNat < n1 := by omega
theorem oq_05f36df5 {a0 a1 : Int} (h0 : a0 = 0) (h1 : ((1 : Int) = 1 → a0 = 1)) : 0 ≤ a1 := by omega
theorem oq_ccd5ba31 {a0 a1 : Int} (h0 : a0 = 0) (h1 : ((1 : Int) = 1 → a0 = 1)) : a1 ≤ 23 := by omega
theorem oq_bd71e2a4 {a0 a1 : Int} (h0 : a0 = 0) (h1 : ((1 : Int) = 1 → a0 = 1)) : (-2) ≤ a1 := by omega
theorem oq_d41b69a9  : (-2147483648) ≤ 0 := by omega
theorem oq_3b9bcde6  : (0 : Int) ≤ 2147483647 := by omega
theorem oq_60c9248f  : (0 : Int) ≤ 24 := by omega
theorem oq_6d672f13 {a0 a1 : Int} (h0 : ((a0 ≠ 0 ∧ a1 = 0) ∨ (a0 = 0 ∧ a1 = 1))) : 0 ≤ a1 := by omega
theorem oq_ccfe7a71 {a0 a1 : Int} (h0 : ((a0 ≠ 0 ∧ a1 = 0) ∨ (a0 = 0 ∧ a1 = 1))) : a1 ≤ 1 := by omega
theorem oq_1ef5cbe1 {a0 : Int} {n1 : Nat} (h0 : a0 < 8) (h1 : ((8 - a0) : Int).toNat < (n1 + 1)) : ((8 - (a0 + 1)) : Int).toNat < n1 := by omega
theorem oq_1de3c892 {a0 a1 : Int} {n2 : Nat} (h0 : a0 < a1) (h1 : ((8 - a0) : Int).toNat < (n2 + 1)) (h2 : a1 ≤ 8) : ((8 - (a0 + 1)) : Int).toNat < n2 := by omega
theorem oq_16ebe683 {a0 a1 a2 a3 : Int} (h0 : (((a0 - a1) ≤ a2 ∧ a3 = 0) ∨ (a2 < (a0 - a1) ∧ a3 = 1))) : 0 ≤ a3 := by omega
theorem oq_4b76e3df {a0 a1 a2 a3 : Int} (h0 : (((a0 - a1) ≤ a2 ∧ a3 = 0) ∨ (a2 < (a0 - a1) ∧ a3 = 1))) : a3 ≤ 1 := by omega
theorem oq_7bcf922d {a0 a1 a2 : Int} (h0 : ((a0 ≤ a1 ∧ a2 = 0) ∨ (a1 < a0 ∧ a2 = 1))) : 0 ≤ a2 := by omega
theorem oq_4d987fa3 {a0 a1 a2 : Int} (h0 : ((a0 ≤ a1 ∧ a2 = 0) ∨ (a1 < a0 ∧ a2 = 1))) : a2 ≤ 1 := by omega
theorem oq_e143c315 {a0 : Int} {n1 : Nat} (h0 : a0 ≤ 1) (h1 : ((2 - a0) : Int).toNat < (n1 + 1)) : ((2 - (a0 + 1)) : Int).toNat < n1 := by omega
theorem oq_ca45149c {a0 a1 : Int} (h0 : a0 = 0) (h1 : ((1 : Int) = 1 → a0 = 1)) : 1 ≤ a1 := by omega
theorem oq_23b4ceb9 {a0 a1 : Int} (h0 : a0 = 0) (h1 : ((1 : Int) = 1 → a0 = 1)) : a1 ≤ 8 := by omega
theorem oq_416d005c {a0 a1 : Int} (h0 : a0 = 0) (h1 : ((1 : Int) = 1 → a0 = 1)) : a1 < 24 := by omega
theorem oq_0329481f {a0 a1 : Int} (h0 : a0 = 0) (h1 : ((1 : Int) = 1 → a0 = 1)) : (a1 : Int).toNat < 24 := by omega
theorem oq_76832dee {a0 : Int} (h0 : a0 ≤ 8) : ((3 * ((a0 - 1) : Int).toNat) + 3) ≤ 24 := by omega
theorem oq_a8457be6 {a0 : Int} (h0 : a0 ≤ 8) : ((24 * ((a0 - 1) : Int).toNat) + 24) ≤ 192 := by omega
theorem oq_90afd5ad {a0 : Int} (h0 : 1 ≤ a0) : ((3 * ((a0 - 1) : Int).toNat) + 3) ≤ (3 * (((a0 + 1) - 1) : Int).toNat) := by omega
theorem oq_f041d202 {a0 : Int} (h0 : 1 ≤ a0) : ((24 * ((a0 - 1) : Int).toNat) + 24) ≤ (24 * (((a0 + 1) - 1) : Int).toNat) := by omega
theorem oq_5c4c75c6 {a0 : Int} {n1 : Nat} (h0 : a0 ≤ 8) (h1 : ((9 - a0) : Int).toNat < (n1 + 1)) : ((9 - (a0 + 1)) : Int).toNat < n1 := by omega
theorem oq_daf44483  : 0 ≤ (3 * ((1 - 1) : Int).toNat) := by omega
theorem oq_f638e75d  : 0 ≤ (24 * ((1 - 1) : Int).toNat) := by omega
theorem oq_35f760f1 {a0 : Int} (h0 : a0 ≤ 9) : (3 * ((a0 - 1) : Int).toNat) ≤ 24 := by omega
theorem oq_5a995d7a {a0 : Int} (h0 : a0 ≤ 9) : (24 * ((a0 - 1) : Int).toNat) ≤ 192 := by omega

theorem oq_1fe1b551 {a0 : Int} (h0 : 0 < a0) : 0 ≤ a0 := by omega
theorem oq_2c248f40 {a0 : Int} (h0 : a0 < 24) : (a0 - 1) < 24 := by omega
theorem oq_94a41655 {a0 : Int} (h0 : a0 < 24) : ((a0 - 1) : Int).toNat < 24 := by omega
theorem oq_29301542 {a0 a1 a2 a3 : Int} (h0 : a0 = a1) (h1 : a1 = a2) (h2 : a2 = a3) (h3 : a3 = 1) (h4 : 1 ≤ a3) : a0 = 1 := by omega
theorem oq_a793c1f2 {a0 a1 : Int} (h0 : a0 = 0) (h1 : (1 = 1 → a0 = 1)) : ((-2) ≤ a1 ∧ a1 ≤ 23) := by omega
theorem oq_81f9594b {a0 a1 a2 a3 a4 : Int} (h0 : ((a0 ≠ (-1) ∧ (a0 ≠ (-2) ∧ ((0 ≤ a1 ∧ a1 ≤ 5) ∧ a2 = a1))) ∨ ((a0 ≠ (-1) ∧ (a0 = (-2) ∧ a2 = a3)) ∨ (a0 = (-1) ∧ a2 = a4)))) (h1 : 0 ≤ a3) (h2 : (-2147483648) ≤ a4) : (-2147483648) ≤ a2 := by omega
theorem oq_fb0e2291 {a0 a1 a2 a3 a4 a5 : Int} (h0 : ((a0 ≠ (-1) ∧ (a0 ≠ (-2) ∧ ((0 ≤ a1 ∧ a1 ≤ 5) ∧ a2 = a1))) ∨ ((a0 ≠ (-1) ∧ (a0 = (-2) ∧ a2 = a3)) ∨ (a0 = (-1) ∧ a2 = a4)))) (h1 : a5 ≤ 24) (h2 : a3 ≤ a5) (h3 : a4 ≤ 2147483647) : a2 ≤ 2147483647 := by omega
theorem oq_52fc8c25 {a0 : Int} (h0 : a0 ≠ (-2)) (h1 : a0 ≠ (-1)) (h2 : (-2) ≤ a0) : 0 ≤ a0 := by omega
theorem oq_094d069b {a0 a1 a2 a3 a4 : Int} (h0 : a0 = a1) (h1 : a1 = a2) (h2 : a2 = a3) (h3 : a3 = a4) (h4 : a4 = 1) (h5 : 1 ≤ a4) : a0 = 1 := by omega
theorem oq_b7c2a8c5 {a0 a1 a2 a3 : Int} (h0 : a0 = 0) (h1 : (a1 = 1 → a0 = 1)) (h2 : a1 ≤ 1) (h3 : ((a2 ≠ 0 ∧ a1 = 0) ∨ (a2 = 0 ∧ a1 = 1))) (h4 : ((a2 = 1 ∧ ((-2) ≤ a3 ∧ a3 ≤ 23)) ∨ (a2 = 0 ∧ (a3 < (-2) ∨ 23 < a3)))) : ((-2) ≤ a3 ∧ a3 ≤ 23) := by omega
theorem oq_e297cd40 {a0 a1 : Int} (h0 : a0 < a1) (h1 : a1 ≤ 8) : a0 ≤ 7 := by omega
theorem oq_0911b3f0 {a0 a1 : Int} (h0 : 0 ≤ a0) (h1 : a1 ≤ 8) : (-2147483648) ≤ (a0 - a1) := by omega
theorem oq_98567cb8 {a0 a1 : Int} (h0 : 1 ≤ a0) (h1 : a1 ≤ 23) : (a1 - a0) ≤ 2147483647 := by omega
theorem oq_7b087cf4 {a0 : Int} (h0 : a0 ≤ 23) : (a0 - 1) ≤ 2147483647 := by omega
theorem oq_c26bbb12 {a0 : Int} (h0 : a0 ≤ 7) : a0 ≤ 11 := by omega
theorem oq_17ce71fa {a0 : Int} (h0 : a0 < 256) : a0 ≤ 2147483647 := by omega
theorem oq_96abdc25 {a0 : Int} (h0 : 0 < a0) : (-2147483648) ≤ (a0 + (-1)) := by omega
theorem oq_ca207916 {a0 : Int} (h0 : a0 ≤ 2147483647) : (a0 + (-1)) ≤ 2147483647 := by omega
theorem oq_8cccae95 {a0 a1 a2 : Int} (h0 : (-1) ≤ a0) (h1 : a1 ≤ 7) : (((100 * (a2 + (-1))) + a1) + 1) < (((100 * a2) + a0) + 1) := by omega
theorem oq_e2d048ad {a0 a1 : Int} (h0 : (-1) ≤ a0) (h1 : 0 < a1) : 0 < (((100 * a1) + a0) + 1) := by omega
theorem oq_012028ef {a0 a1 a2 : Int} (h0 : a0 = (-1)) (h1 : a1 ≠ (-1)) (h2 : (-1) ≤ a1) : (((100 * a2) + a0) + 1) < (((100 * a2) + a1) + 1) := by omega
theorem oq_b11e0c68 {a0 : Int} (h0 : a0 < 2) : a0 ≤ 1 := by omega
theorem oq_f4e79888 {a0 : Int} (h0 : a0 ≤ 1) : (a0 + 1) ≤ 2 := by omega
theorem oq_8f78399e {a0 : Int} (h0 : a0 ≤ 1) : 0 < (2 - a0) := by omega
theorem oq_af0a1e40 {a0 a1 : Int} (h0 : a0 = 0) (h1 : (1 = 1 → a0 = 1)) : a1 < 24 := by omega
theorem oq_dac967e2 {a0 a1 : Int} (h0 : a0 = 0) (h1 : (1 = 1 → a0 = 1)) : (a1 : Int).toNat < 24 := by omega
theorem oq_b44a1c7f {a0 a1 : Int} (h0 : a0 = a1) (h1 : a1 = 1) (h2 : 1 ≤ a1) : a0 = 1 := by omega
theorem oq_fcd95e52 {a0 a1 : Int} (h0 : a0 ≠ 0) (h1 : ((a0 = 1 ∧ (1 ≤ a1 ∧ a1 ≤ 8)) ∨ (a0 = 0 ∧ (a1 < 1 ∨ 8 < a1)))) : 1 ≤ a1 := by omega
theorem oq_7e545af9 {a0 a1 : Int} (h0 : a0 ≠ 0) (h1 : ((a0 = 1 ∧ (1 ≤ a1 ∧ a1 ≤ 8)) ∨ (a0 = 0 ∧ (a1 < 1 ∨ 8 < a1)))) : a1 ≤ 8 := by omega
theorem oq_2013374c {a0 a1 a2 a3 a4 a5 : Int} (h0 : a0 = a1) (h1 : a1 = a2) (h2 : a2 = a3) (h3 : a3 = a4) (h4 : a4 = a5) (h5 : 1 ≤ a5) (h6 : a5 = 1) : a0 = 1 := by omega
theorem oq_7cf08d15 {a0 a1 a2 a3 : Int} (h0 : a0 = 0) (h1 : (a1 = 1 → a0 = 1)) (h2 : a1 ≤ 1) (h3 : ((a2 ≠ 0 ∧ a1 = 0) ∨ (a2 = 0 ∧ a1 = 1))) (h4 : ((a2 = 1 ∧ (0 ≤ a3 ∧ a3 ≤ 23)) ∨ (a2 = 0 ∧ (a3 < 0 ∨ 23 < a3)))) : a3 < 24 := by omega
theorem oq_d2cd5ad0 {a0 a1 a2 a3 : Int} (h0 : a0 = 0) (h1 : (a1 = 1 → a0 = 1)) (h2 : a1 ≤ 1) (h3 : ((a2 ≠ 0 ∧ a1 = 0) ∨ (a2 = 0 ∧ a1 = 1))) (h4 : ((a2 = 1 ∧ (0 ≤ a3 ∧ a3 ≤ 23)) ∨ (a2 = 0 ∧ (a3 < 0 ∨ 23 < a3)))) : (a3 : Int).toNat < 24 := by omega
theorem oq_c5edd56f {a0 : Int} (h0 : a0 ≤ 8) : (a0 + 1) ≤ 9 := by omega
theorem oq_fa1cb672 {a0 : Int} (h0 : a0 ≤ 8) : 0 < (9 - a0) := by omega
/-! The model: rotas -/
def sx (s : PS) (px : va_W) : PS := (s.1, s.2.1, s.2.2.1, s.2.2.2.1, px)
def exW (d : ClassId) (l : List (Nat × Nat)) (fs : Nat → Nat → Int32) : va_W := l.zipIdx.map (fun x => (x.1.1, .inl (d, x.1.2, .inl (fs x.2))))
/-- behind X0 there are the rows l -/
def EXl (X0 : va_W) (d : ClassId) (l : List (Nat × Nat)) (t : PS) : Prop := ∃ fs : Nat → Nat → Int32, pX t = X0 ++ exW d l fs
def FmX (L M : List Nat) (s t : PS) : Prop := (∀ k, k ∉ L → gI t k = gI s k) ∧ (∀ a, a ∉ M → t.2.2.1 a = s.2.2.1 a) ∧ FL L M s t
theorem fx_I {L M : List Nat} {s t : PS} {k : Nat} {x : Int32} (h : FmX L M s t) (hk : k ∈ L) : FmX L M s (uI t k x) := by
  refine ⟨fun j hj => ?_, h.2.1, h.2.2⟩
  show (if j = k then x else t.1 j) = _
  rw [if_neg (fun q : j = k => hj (by rw [q]; exact hk))]; exact h.1 j hj
theorem fx_C {L M : List Nat} {s t : PS} {a i : Nat} {x : Int32} (h : FmX L M s t) (ha : a ∈ M) : FmX L M s (uC t a i x) := by
  refine ⟨h.1, fun b hb => ?_, h.2.2⟩
  show (if b = a then upd (t.2.2.1 a) i x else t.2.2.1 b) = _
  rw [if_neg (fun q : b = a => hb (by rw [q]; exact ha))]; exact h.2.1 b hb
theorem fx_ts {L M L' M' : List Nat} {s t u : PS} (h : FmX L M s t) (g : Fm L' M' t u) (h1 : ∀ k ∈ L', k ∈ L) (h2 : ∀ k ∈ M', k ∈ M) : FmX L M s u :=
  ⟨fun k hk => (g.1 k (fun q => hk (h1 k q))).trans (h.1 k hk), fun a ha => (g.2.1 a (fun q => ha (h2 a q))).trans (h.2.1 a ha), fl_ts h.2.2 g.2.2.2 h1 h2⟩
theorem fx_end {L M : List Nat} {s t : PS} (h : FmX L M s t) : Fm L M s (sx t (pX s)) := ⟨h.1, h.2.1, rfl, h.2.2⟩
theorem EX_fm {L M : List Nat} {X0 : va_W} {d : ClassId} {l : List (Nat × Nat)} {s t : PS} (F : Fm L M s t) (e : EXl X0 d l s) : EXl X0 d l t := by
  obtain ⟨fs, h⟩ := e
  exact ⟨fs, by rw [F.2.2.1, h]⟩
theorem exW_get {d : ClassId} {l : List (Nat × Nat)} {fs : Nat → Nat → Int32} {i q n : Nat} (h : l[i]? = some (q, n)) : (exW d l fs)[i]? = some (q, .inl (d, n, .inl (fs i))) := by
  unfold exW
  rw [List.getElem?_map, List.getElem?_zipIdx, h]
  show some ((q, n).1, _) = _
  rw [Nat.zero_add]
theorem exW_set {d : ClassId} {l : List (Nat × Nat)} {fs : Nat → Nat → Int32} {i q n : Nat} {f : Nat → Int32} (h : l[i]? = some (q, n)) : (exW d l fs).set i (q, .inl (d, n, .inl f)) = exW d l (fun j => if j = i then f else fs j) := by
  apply List.ext_getElem?
  intro j
  rw [List.getElem?_set]
  by_cases e : i = j
  · subst e
    have hl : i < (exW d l fs).length := (List.getElem?_eq_some_iff.mp (exW_get (d := d) (fs := fs) h)).1
    rw [if_pos rfl, if_pos hl, exW_get h, if_pos rfl]
  · rw [if_neg e]
    cases hj : l[j]? with
    | none =>
      have e1 : (exW d l fs)[j]? = none := by unfold exW; rw [List.getElem?_map, List.getElem?_zipIdx, hj]; rfl
      have e2 : (exW d l (fun j => if j = i then f else fs j))[j]? = none := by unfold exW; rw [List.getElem?_map, List.getElem?_zipIdx, hj]; rfl
      rw [e1, e2]
    | some y =>
      obtain ⟨q', n'⟩ := y
      rw [exW_get hj, exW_get hj, if_neg (Ne.symm e)]
section ZX2
variable {k : kx_T} {mn pc : Nat} {dT : Nat → ClassId} {lv : List (Nat × Value)} {st : List Value} {ws : va_W} {ce sl a b : Nat} {z : Int} {A : Nat → Nat} {s : PS} {X0 : va_W} {l : List (Nat × Nat)}
theorem ex_at {fs : Nat → Nat → Int32} (hf : pX s = X0 ++ exW (dT 0) l fs) {i q n : Nat} (hl : l[i]? = some (q, n)) : (Wd A dT s)[518 + X0.length + i]? = some (q, .inl (dT 0, n, .inl (fs i))) := by
  rw [Wd_ext (by omega), hf, List.getElem?_append_right (by omega), show 518 + X0.length + i - 518 - X0.length = i by omega]
  exact exW_get hl
theorem z_xald (X : AX k mn dT) (e : EXl X0 (dT 0) l s) (i : Nat) {q n : Nat} {j : Int} (hl : l[i]? = some (q, n)) (h : cdA mn pc = some (.iaload, 1, 0, 0, 0)) (h0 : 0 ≤ j) (hj : j < (n : Int)) (hn : n < 2147483648) (g : ∀ e, rng e → WS k (pc + 1) lv (.int (Int32.ofInt e) :: st) (Wd A dT s) ce sl) : WS k pc lv (.int (Int32.ofInt j) :: .ref q :: st) (Wd A dT s) ce sl := by
  obtain ⟨fs, hf⟩ := e
  rw [on_of h0]
  exact w_iald X.1 _ (ex_at hf hl) (X.2.2.1 0) (on_in (by first | exact oq_58be8290 hj h0 | omega) hn) (ax_d X h) (z_any g)
theorem z_xast (X : AX k mn dT) (e : EXl X0 (dT 0) l s) (i : Nat) {q n : Nat} {j x : Int} (hl : l[i]? = some (q, n)) (h : cdA mn pc = some (.iastore, 1, 0, 0, 0)) (h0 : 0 ≤ j) (hj : j < (n : Int)) (hn : n < 2147483648) (g : ∀ px, EXl X0 (dT 0) l (sx s px) → WS k (pc + 1) lv st (Wd A dT (sx s px)) ce sl) : WS k pc lv (.int (Int32.ofInt x) :: .int (Int32.ofInt j) :: .ref q :: st) (Wd A dT s) ce sl := by
  obtain ⟨fs, hf⟩ := e
  rw [on_of h0]
  refine w_iast X.1 _ (ex_at hf hl) (X.2.2.1 0) (on_in (by first | exact oq_58be8290 hj h0 | omega) hn) (ax_d X h) ?_
  have := g (X0 ++ exW (dT 0) l (fun j' => if j' = i then upd (fs i) (Int32.ofNat j.toNat).toNatClampNeg (Int32.ofInt x) else fs j')) ⟨_, rfl⟩
  rw [← exW_set hl] at this
  have e2 : Wd A dT (sx s (X0 ++ (exW (dT 0) l fs).set i (q, .inl (dT 0, n, .inl (upd (fs i) (Int32.ofNat j.toNat).toNatClampNeg (Int32.ofInt x)))))) = (Wd A dT s).set (518 + X0.length + i) (q, .inl (dT 0, n, .inl (upd (fs i) (Int32.ofNat j.toNat).toNatClampNeg (Int32.ofInt x)))) := by
    show cW (vS A s) dT bsS (518, []) ++ (X0 ++ _) = (cW (vS A s) dT bsS (518, []) ++ pX s).set _ _
    rw [hf, List.set_append_right _ _ (by rw [cW_518]; omega), cW_518, List.set_append_right _ _ (by omega), show 518 + X0.length + i - 518 - X0.length = i by omega]
  rw [e2] at this
  exact this
theorem z_newX (X : AX k mn dT) {n : Nat} (hn : n ≤ 1000) (h : cdA mn pc = some (.newarray .int, 2, a, b, z)) (h1 : ce + 1 ≤ (kR k).cells) (h2 : sl + n ≤ (kR k).slots) (g : ∀ q : Nat, WS k (pc + 2) lv (.ref q :: st) (Wd A dT (sx s (pX s ++ [(q, .inl (dT 0, n, .inl (fun _ => 0)))]))) (ce + 1) (sl + n)) : WS k pc lv (.int (Int32.ofInt (n : Int)) :: st) (Wd A dT s) ce sl := by
  have harr : Cond.arrayClass .int ∈ gT := by
    rcases (ax_r X h).2.2 with q | q | q
    · exact q.2.2
    · cases q.1
    · cases q.1
  obtain ⟨n1, n2⟩ := nat_of (z := (n : Int)) (by first | exact oq_a3593015 | omega) (by first | exact oq_423f334e hn | omega)
  refine w_newa X.1 (N := n) (a0 := (n, .inl (fun _ => 0))) harr rfl (fun _ h => by cases h) (X.2.2.1 0) (vp_cell_i _ _ _) (fun c => vp_cell_i _ _ _) n1 (by rw [n2]; rfl) (by show n * 4 ≤ _; omega) h1 h2 (ax_d X h) (fun q => ?_)
  have := g q
  have e : Wd A dT (sx s (pX s ++ [(q, .inl (dT 0, n, .inl (fun _ => 0)))])) = Wd A dT s ++ [(q, .inl (dT 0, n, .inl (fun _ => 0)))] := by
    show cW (vS A s) dT bsS (518, []) ++ (pX s ++ _) = (cW (vS A s) dT bsS (518, []) ++ pX s) ++ _
    rw [List.append_assoc]
  rw [e] at this
  exact this
theorem WS_drop {e : va_W} (h : WS k pc lv st ws ce sl) : WS k pc lv st (ws ++ e) ce sl := fun H locs ls hP hD hS hl => by
  have sub : ∀ (i : Nat) (q : Nat × va_E), ws[i]? = some q → (ws ++ e)[i]? = some q := fun i q hi => by
    rw [List.getElem?_append_left (List.getElem?_eq_some_iff.mp hi).1]; exact hi
  exact h H locs ls (fun i q hi => hP i q (sub i q hi)) ⟨fun i j p q hi hj he => hD.1 i j p q (sub i p hi) (sub j q hj) he, fun i q hi => hD.2 i q (sub i q hi)⟩ hS hl
theorem ws_forget (e : EXl X0 (dT 0) l s) (h : WS k pc lv st (Wd A dT (sx s X0)) ce sl) : WS k pc lv st (Wd A dT s) ce sl := by
  obtain ⟨fs, hf⟩ := e
  have e2 : Wd A dT s = Wd A dT (sx s X0) ++ exW (dT 0) l fs := by
    show cW (vS A s) dT bsS (518, []) ++ pX s = (cW (vS A s) dT bsS (518, []) ++ X0) ++ _
    rw [hf, List.append_assoc]
  rw [e2]
  exact WS_drop h
end ZX2
section M60
variable {l : Launch} {s0 : State} {D : va_G} {tys : List (ClassId × FieldType)} {a0 : Array Value} {A : Nat → Nat} {dT : Nat → ClassId} {s : PS}
set_option maxRecDepth 4000 in
theorem k_plan (G : GX l s0 D tys a0 dT) (I : Bd s) (jRLx : RLx s) {x y : Int} (p0 : rng x) (p1 : rng y) (p2 : iI s 89 = 1) : CT l s0 D A dT 272 (rmN 272) [.ref (A 179), .int (Int32.ofInt x), .int (Int32.ofInt y)] s (fun o t => Bd t ∧ Fm [73, 77, 75, 78, 79, 80, 81, 89] [161, 230, 202, 204, 205, 206, 207, 208, 209, 210, 211, 212, 213, 214, 215, 216, 217, 218, 219, 220, 221, 222, 223, 224, 225, 226, 227, 203, 395, 396, 245, 246, 247, 248, 249, 250, 251, 252, 253, 254, 255, 256, 257, 258, 259, 260, 261, 262, 263, 264, 265, 266, 267, 268, 269, 270, 271, 272, 273, 274, 275, 276, 277, 278, 279, 280, 281, 282, 283, 284, 285, 286, 287, 288, 289, 290, 291, 292, 293, 294, 295, 296, 297, 298, 299, 300, 301, 302, 303, 304, 305, 306, 307, 308, 309, 310, 311, 312, 313, 314, 315, 316, 317, 318, 319, 320, 321, 322, 323, 324, 325, 326, 327, 328, 329, 330, 331, 332, 333, 334, 335, 336, 337, 338, 339, 340, 341, 342, 343, 344, 345, 346, 347, 348, 349, 350, 351, 352, 353, 354, 355, 356, 357, 358, 359, 360, 361, 362, 363, 364, 365, 366, 367, 368, 369, 370, 371, 372, 373, 374, 375, 376, 377, 378, 379, 380, 381, 382, 383, 384, 385, 386, 387, 388, 389, 390, 391, 392, 393, 394] s t ∧ RLx t ∧ ∃ e, o = .inl (some (.int (Int32.ofInt e))) ∧ rng e ∧ (iI t 89 = 1)) := by
  refine ct_of G (by decide) (Nat.le_of_ble_eq_true rfl) (fun k X E hRt hXt q => ?_)
  show WS k 0 [(0, .ref (A 179)), (1, .int (Int32.ofInt x)), (2, .int (Int32.ofInt y))] [] _ 0 0
  have F : Fm [73, 77, 75, 78, 79, 80, 81, 89] [161, 230, 202, 204, 205, 206, 207, 208, 209, 210, 211, 212, 213, 214, 215, 216, 217, 218, 219, 220, 221, 222, 223, 224, 225, 226, 227, 203, 395, 396, 245, 246, 247, 248, 249, 250, 251, 252, 253, 254, 255, 256, 257, 258, 259, 260, 261, 262, 263, 264, 265, 266, 267, 268, 269, 270, 271, 272, 273, 274, 275, 276, 277, 278, 279, 280, 281, 282, 283, 284, 285, 286, 287, 288, 289, 290, 291, 292, 293, 294, 295, 296, 297, 298, 299, 300, 301, 302, 303, 304, 305, 306, 307, 308, 309, 310, 311, 312, 313, 314, 315, 316, 317, 318, 319, 320, 321, 322, 323, 324, 325, 326, 327, 328, 329, 330, 331, 332, 333, 334, 335, 336, 337, 338, 339, 340, 341, 342, 343, 344, 345, 346, 347, 348, 349, 350, 351, 352, 353, 354, 355, 356, 357, 358, 359, 360, 361, 362, 363, 364, 365, 366, 367, 368, 369, 370, 371, 372, 373, 374, 375, 376, 377, 378, 379, 380, 381, 382, 383, 384, 385, 386, 387, 388, 389, 390, 391, 392, 393, 394] s s := fm_rf _ _ s
  have b1 := bi_73 I
  have b2 := bi_89 I
  have L59 : ∀ (n : Nat) (t : PS) (xv yv pr ch qq : Int), Bd t → Fm [73, 77, 75, 78, 79, 80, 81, 89] [161, 230, 202, 204, 205, 206, 207, 208, 209, 210, 211, 212, 213, 214, 215, 216, 217, 218, 219, 220, 221, 222, 223, 224, 225, 226, 227, 203, 395, 396, 245, 246, 247, 248, 249, 250, 251, 252, 253, 254, 255, 256, 257, 258, 259, 260, 261, 262, 263, 264, 265, 266, 267, 268, 269, 270, 271, 272, 273, 274, 275, 276, 277, 278, 279, 280, 281, 282, 283, 284, 285, 286, 287, 288, 289, 290, 291, 292, 293, 294, 295, 296, 297, 298, 299, 300, 301, 302, 303, 304, 305, 306, 307, 308, 309, 310, 311, 312, 313, 314, 315, 316, 317, 318, 319, 320, 321, 322, 323, 324, 325, 326, 327, 328, 329, 330, 331, 332, 333, 334, 335, 336, 337, 338, 339, 340, 341, 342, 343, 344, 345, 346, 347, 348, 349, 350, 351, 352, 353, 354, 355, 356, 357, 358, 359, 360, 361, 362, 363, 364, 365, 366, 367, 368, 369, 370, 371, 372, 373, 374, 375, 376, 377, 378, 379, 380, 381, 382, 383, 384, 385, 386, 387, 388, 389, 390, 391, 392, 393, 394] s t → RLx t → ((-2 ≤ yv ∧ yv ≤ 23) ∧ rng pr ∧ (0 ≤ ch ∧ ch ≤ qq) ∧ qq ≤ 24 ∧ iI t 89 = 1) → (24 - qq : Int).toNat < n → (∀ (t' : PS) (pr' ch' qq' : Int), Bd t' → Fm [73, 77, 75, 78, 79, 80, 81, 89] [161, 230, 202, 204, 205, 206, 207, 208, 209, 210, 211, 212, 213, 214, 215, 216, 217, 218, 219, 220, 221, 222, 223, 224, 225, 226, 227, 203, 395, 396, 245, 246, 247, 248, 249, 250, 251, 252, 253, 254, 255, 256, 257, 258, 259, 260, 261, 262, 263, 264, 265, 266, 267, 268, 269, 270, 271, 272, 273, 274, 275, 276, 277, 278, 279, 280, 281, 282, 283, 284, 285, 286, 287, 288, 289, 290, 291, 292, 293, 294, 295, 296, 297, 298, 299, 300, 301, 302, 303, 304, 305, 306, 307, 308, 309, 310, 311, 312, 313, 314, 315, 316, 317, 318, 319, 320, 321, 322, 323, 324, 325, 326, 327, 328, 329, 330, 331, 332, 333, 334, 335, 336, 337, 338, 339, 340, 341, 342, 343, 344, 345, 346, 347, 348, 349, 350, 351, 352, 353, 354, 355, 356, 357, 358, 359, 360, 361, 362, 363, 364, 365, 366, 367, 368, 369, 370, 371, 372, 373, 374, 375, 376, 377, 378, 379, 380, 381, 382, 383, 384, 385, 386, 387, 388, 389, 390, 391, 392, 393, 394] s t' → RLx t' → ((-2 ≤ yv ∧ yv ≤ 23) ∧ rng pr' ∧ (0 ≤ ch' ∧ ch' ≤ qq') ∧ qq' ≤ 24 ∧ iI t' 89 = 1) → WS k 116 [(0, .ref (A 179)), (1, .int (Int32.ofInt xv)), (2, .int (Int32.ofInt yv)), (3, .int (Int32.ofInt pr')), (4, .int (Int32.ofInt ch')), (5, .int (Int32.ofInt qq'))] [] (Wd A dT t') 0 0) → WS k 59 [(0, .ref (A 179)), (1, .int (Int32.ofInt xv)), (2, .int (Int32.ofInt yv)), (3, .int (Int32.ofInt pr)), (4, .int (Int32.ofInt ch)), (5, .int (Int32.ofInt qq))] [] (Wd A dT t) 0 0 := by
    intro n
    induction n with
    | zero =>
      intro t xv yv pr ch qq I F jjRLx hi hm kx
      exact absurd hm (Nat.not_lt_zero _)
    | succ n ih =>
      intro t xv yv pr ch qq I F jjRLx hi hm kx
      have b1001 := bi_73 I
      have b1002 := bi_89 I
      refine z_load X (x := qq) rfl (List.Mem.tail _ (List.Mem.tail _ (List.Mem.tail _ (List.Mem.tail _ (List.Mem.tail _ (List.Mem.head _)))))) (z_bipush X rfl (z_icmp_ge X (t := 116) rfl rfl ⟨by first | exact oq_e001bc0d hi.2.2.1.2 hi.2.2.1.1 | omega, by first | exact oq_5bcd337f hi.2.2.2.1 | omega⟩ (by decide) (fun g1003 => ?_) (fun g1003 => ?_)))
      ·
        refine WS_pq [0, 1, 2, 3, 4, 5] (lv' := [(0, .ref (A 179)), (1, .int (Int32.ofInt xv)), (2, .int (Int32.ofInt yv)), (3, .int (Int32.ofInt pr)), (4, .int (Int32.ofInt ch)), (5, .int (Int32.ofInt qq))]) rfl ?_
        exact kx _ pr ch qq I F jjRLx (by first | exact ⟨And.intro (hi.1.1) (hi.1.2), And.intro (hi.2.1.1) (hi.2.1.2), And.intro (hi.2.2.1.1) (hi.2.2.1.2), hi.2.2.2.1, hi.2.2.2.2⟩ | omega)
      ·
        refine z_load_n X (x := pr) rfl (List.Mem.tail _ (List.Mem.tail _ (List.Mem.tail _ (List.Mem.head _)))) (z_aload_n X (x := A 179) rfl (List.Mem.head _) (s_getR X 179 rfl (c518_ok rfl) rfl rfl (z_load X (x := qq) rfl (List.Mem.tail _ (List.Mem.tail _ (List.Mem.tail _ (List.Mem.tail _ (List.Mem.tail _ (List.Mem.head _)))))) (z_ald X 451 rfl (c518_ok rfl) rfl (by first | exact oq_12a1f9e1 hi.2.2.1.2 hi.2.2.1.1 | omega) (show qq < 24 by first | exact g1003 | omega) (cbig_ok rfl) ?_))))
        have b1004 := bc_396 I (show (qq).toNat < 24 by first | exact oq_797efae6 g1003 | omega)
        refine z_add X rfl (z_any (fun y1005 hy1005 => ?_))
        refine z_store_n X (lv' := [(3, .int (Int32.ofInt y1005)), (0, .ref (A 179)), (1, .int (Int32.ofInt xv)), (2, .int (Int32.ofInt yv)), (4, .int (Int32.ofInt ch)), (5, .int (Int32.ofInt qq))]) rfl (by decide) (fun _ h => h) (z_load X (x := ch) rfl (List.Mem.tail _ (List.Mem.tail _ (List.Mem.tail _ (List.Mem.tail _ (List.Mem.head _))))) (z_load X (x := qq) rfl (List.Mem.tail _ (List.Mem.tail _ (List.Mem.tail _ (List.Mem.tail _ (List.Mem.tail _ (List.Mem.head _)))))) ?_))
        have N1006 : ∀ e1007 : Int, (((qq ≤ 0) ∧ e1007 = 0) ∨ ((0 < qq) ∧ ((0 : Int) ≤ iC t 395 (qq).toNat ∧ iC t 395 (qq).toNat ≤ 5) ∧ ((0 : Int) ≤ iC t 395 ((qq - 1)).toNat ∧ iC t 395 ((qq - 1)).toNat ≤ 5) ∧ ((iC t 395 (qq).toNat) = (iC t 395 ((qq - 1)).toNat)) ∧ e1007 = 0) ∨ ((0 < qq) ∧ ((0 : Int) ≤ iC t 395 (qq).toNat ∧ iC t 395 (qq).toNat ≤ 5) ∧ ((0 : Int) ≤ iC t 395 ((qq - 1)).toNat ∧ iC t 395 ((qq - 1)).toNat ≤ 5) ∧ ((iC t 395 (qq).toNat) ≠ (iC t 395 ((qq - 1)).toNat)) ∧ e1007 = 1)) → WS k 107 [(3, .int (Int32.ofInt y1005)), (0, .ref (A 179)), (1, .int (Int32.ofInt xv)), (2, .int (Int32.ofInt yv)), (4, .int (Int32.ofInt ch)), (5, .int (Int32.ofInt qq))] [.int (Int32.ofInt e1007), .int (Int32.ofInt ch)] (Wd A dT t) 0 0 := by
          intro e1007 he1007
          have re1007 : 0 ≤ e1007 ∧ e1007 ≤ 1 := by first | exact And.intro (oq_275f6cf4 he1007) (oq_54a85c79 he1007) | (clear he1007; omega) | omega
          refine z_add X rfl (z_store X (lv' := [(4, .int (Int32.ofInt (ch + e1007))), (3, .int (Int32.ofInt y1005)), (0, .ref (A 179)), (1, .int (Int32.ofInt xv)), (2, .int (Int32.ofInt yv)), (5, .int (Int32.ofInt qq))]) rfl (by decide) (fun _ h => h) (z_inc X (x := qq) (lv' := [(5, .int (Int32.ofInt (qq + 1))), (4, .int (Int32.ofInt (ch + e1007))), (3, .int (Int32.ofInt y1005)), (0, .ref (A 179)), (1, .int (Int32.ofInt xv)), (2, .int (Int32.ofInt yv))]) rfl (by decide) (List.Mem.tail _ (List.Mem.tail _ (List.Mem.tail _ (List.Mem.tail _ (List.Mem.tail _ (List.Mem.head _)))))) (fun _ h => h) (z_goto X (t := 59) rfl rfl (WS_pq [3, 4, 5, 2, 1, 0] (lv' := [(0, .ref (A 179)), (1, .int (Int32.ofInt xv)), (2, .int (Int32.ofInt yv)), (3, .int (Int32.ofInt y1005)), (4, .int (Int32.ofInt (ch + e1007))), (5, .int (Int32.ofInt (qq + 1)))]) rfl ?_))))
          exact ih _ xv yv y1005 (ch + e1007) (qq + 1) I F jjRLx (by first | exact ⟨And.intro (hi.1.1) (hi.1.2), And.intro (hy1005.1) (hy1005.2), And.intro (oq_dd29f52d hi.2.2.1.1 re1007.1) (oq_273e42a6 hi.2.2.1.2 re1007.2), oq_cec7cb2e g1003, hi.2.2.2.2⟩ | omega) (by first | exact qk_me hm (by decide) (oq_ffa8317e g1003) | exact oq_1c1a0929 g1003 hm | omega) kx
        refine z_if_le X (t := 106) rfl rfl ⟨by first | exact oq_e001bc0d hi.2.2.1.2 hi.2.2.1.1 | omega, by first | exact oq_1d70227b g1003 | omega⟩ (fun g1008 => ?_) (fun g1008 => ?_)
        ·
          exact z_const X rfl (N1006 _ (Or.inl ⟨g1008, rfl⟩))
        ·
          refine z_aload_n X (x := A 179) rfl (List.Mem.tail _ (List.Mem.head _)) (s_getR X 179 rfl (c518_ok rfl) rfl rfl (z_load X (x := qq) rfl (List.Mem.tail _ (List.Mem.tail _ (List.Mem.tail _ (List.Mem.tail _ (List.Mem.tail _ (List.Mem.head _)))))) (z_ald X 450 rfl (c518_ok rfl) rfl (by first | exact oq_1fe1b551 g1008 | omega) (show qq < 24 by first | exact g1003 | omega) (cbig_ok rfl) ?_)))
          have b1009 := bc_395 I (show (qq).toNat < 24 by first | exact oq_797efae6 g1003 | omega)
          refine z_aload_n X (x := A 179) rfl (List.Mem.tail _ (List.Mem.head _)) (s_getR X 179 rfl (c518_ok rfl) rfl rfl (z_load X (x := qq) rfl (List.Mem.tail _ (List.Mem.tail _ (List.Mem.tail _ (List.Mem.tail _ (List.Mem.tail _ (List.Mem.head _)))))) (z_const X rfl (z_sub X rfl (z_ald X 450 rfl (c518_ok rfl) rfl (by first | exact oq_a4f22177 g1008 | omega) (show (qq - 1) < 24 by first | exact oq_2c248f40 g1003 | omega) (cbig_ok rfl) ?_)))))
          have b1010 := bc_395 I (show ((qq - 1)).toNat < 24 by first | exact oq_94a41655 g1003 | omega)
          refine z_icmp_eq X (t := 106) rfl rfl (rng_to _) (rng_to _) (fun g1011 => ?_) (fun g1011 => ?_)
          ·
            exact z_const X rfl (N1006 _ (Or.inr (Or.inl ⟨g1008, b1009, b1010, g1011, rfl⟩)))
          ·
            exact z_const X rfl (z_goto X (t := 107) rfl rfl (N1006 _ (Or.inr (Or.inr (⟨g1008, b1009, b1010, g1011, rfl⟩)))))
  refine z_aload_n X (x := A 179) rfl (List.Mem.head _) (z_const X rfl (s_putI X 179 rfl (c518_ok rfl) rfl rfl (by decide) rfl rfl rfl (wd_gen (fun s3 hs3 => ?_))))
  have Is3 : Bd s3 := eqB hs3 (bd_I I (show (0 : Int) ≤ 0 ∧ 0 ≤ 3 by first | exact ⟨by decide, by decide⟩ | omega) (by decide))
  have Fs3 := eqF hs3 (fm_I F (inl_ok (a := 73) rfl))
  have vs3 : iI s3 73 = 0 := eqI hs3 (iI_u (by decide))
  have ws3_89 : iI s3 89 = iI s 89 := eqI hs3 rfl
  have fs3 : Fm [73] [] s s3 := by rw [hs3]; exact fm_I (fm_rf _ _ _) (show 73 ∈ _ by decide)
  have JRLx_s3 : RLx s3 := RLx_fm fs3 (by decide) jRLx
  refine z_aload_n X (x := A 179) rfl (List.Mem.head _) (z_load_n X (x := x) rfl (List.Mem.tail _ (List.Mem.head _)) (z_const X rfl (z_bipush X rfl (zcS_i0 X E (As := [.int (Int32.ofInt x), .int (Int32.ofInt 0), .int (Int32.ofInt 23)]) (st := [.ref (A 179)]) rfl rfl (k_in G Is3 (by first | exact ⟨p0.1, p0.2⟩ | omega) (by first | exact ⟨by decide, by decide⟩ | omega) (by first | exact ⟨by decide, by decide⟩ | omega)) rfl (Nat.le_of_ble_eq_true rfl) (fun s4 e5 Is4 Fs4 hrs4 hps4 => ?_)))))
  have Gs4 := fm_tq Fs3 Fs4 rfl rfl
  have JRLx_s4 : RLx s4 := RLx_fm Fs4 (by decide) JRLx_s3
  have ws4_73 : iI s4 73 = iI s3 73 := fm_iq Fs4 rfl
  have ws4_89 : iI s4 89 = iI s3 89 := fm_iq Fs4 rfl
  refine z_if_eq X (t := 27) rfl rfl hrs4 (fun g6 => ?_) (fun g6 => ?_)
  ·
    refine z_const X rfl (z_goto X (t := 32) rfl rfl (z_const X rfl (zcV_i0 X E 179 (As := [.int (Int32.ofInt 1), .int (Int32.ofInt 1)]) (st := []) rfl rfl rfl rfl (k_bad G Is4 (by first | exact Or.inr (by decide) | omega) (by first | exact ⟨by decide, by decide⟩ | omega)) rfl (Nat.le_of_ble_eq_true rfl) (fun s7 e8 Is7 Fs7 hrs7 hps7 => ?_))))
    have Gs7 := fm_tq Gs4 Fs7 rfl rfl
    have JRLx_s7 : RLx s7 := RLx_fm Fs7 (by decide) JRLx_s4
    have b9 := bi_73 Is7
    have ws7_89 : iI s7 89 = iI s4 89 := fm_iq Fs7 rfl
    refine z_if_eq X (t := 41) rfl rfl hrs7 (fun g10 => ?_) (fun g10 => ?_)
    ·
      refine z_aload_n X (x := A 179) rfl (List.Mem.head _) (z_load_n X (x := x) rfl (List.Mem.tail _ (List.Mem.head _)) (zcV_i1 X E 179 (As := [.int (Int32.ofInt x)]) (st := []) rfl rfl rfl rfl (k_findPlan G Is7 JRLx_s7 (by first | exact ⟨oq_65cab3da g10 hps7.2.1, oq_5b968bc5 g10 hps7.2.1⟩ | exact And.intro (oq_05f36df5 g10 hps7.2.1) (oq_ccd5ba31 g10 hps7.2.1) | omega) (by first | exact oq_29301542 ws7_89 ws4_89 ws3_89 p2 b2.1 | omega)) rfl (Nat.le_of_ble_eq_true rfl) (fun s11 e12 Is11 Fs11 JRLx_s11 hrs11 hps11 => ?_)))
      have hps11p := hps11.2
      have Gs11 := fm_ts Gs7 Fs11 (by decide) (by decide +kernel)
      have JRLx_s11 : RLx s11 := RLx_fm Fs11 (by decide) JRLx_s7
      have ws11_73 : iI s11 73 = iI s7 73 := fm_iq Fs11 rfl
      have b13 := bi_89 Is11
      refine z_if_ne X (t := 51) rfl rfl hrs11 (fun g14 => ?_) (fun g14 => ?_)
      ·
        refine z_const X rfl (z_store_n X (lv' := [(3, .int (Int32.ofInt 0)), (0, .ref (A 179)), (1, .int (Int32.ofInt x)), (2, .int (Int32.ofInt y))]) rfl (by decide) (fun _ h => h) (z_const X rfl (z_store X (lv' := [(4, .int (Int32.ofInt 0)), (3, .int (Int32.ofInt 0)), (0, .ref (A 179)), (1, .int (Int32.ofInt x)), (2, .int (Int32.ofInt y))]) rfl (by decide) (fun _ h => h) (z_const X rfl (z_store X (lv' := [(5, .int (Int32.ofInt 0)), (4, .int (Int32.ofInt 0)), (3, .int (Int32.ofInt 0)), (0, .ref (A 179)), (1, .int (Int32.ofInt x)), (2, .int (Int32.ofInt y))]) rfl (by decide) (fun _ h => h) (WS_pq [3, 4, 5, 2, 1, 0] (lv' := [(0, .ref (A 179)), (1, .int (Int32.ofInt x)), (2, .int (Int32.ofInt y)), (3, .int (Int32.ofInt 0)), (4, .int (Int32.ofInt 0)), (5, .int (Int32.ofInt 0))]) rfl (L59 ((24 - 0 : Int).toNat + 1) s11 x y 0 0 0 Is11 Gs11 JRLx_s11 (by first | exact ⟨oq_a793c1f2 g10 hps7.2.1, And.intro (by decide) (by decide), And.intro (by decide) (by decide), by decide, hps11.2⟩ | exact And.intro (And.intro (oq_bd71e2a4 g10 hps7.2.1) (oq_ccd5ba31 g10 hps7.2.1)) (And.intro (And.intro (oq_d41b69a9) (oq_3b9bcde6)) (And.intro (And.intro (oq_0fe6b7e2) (oq_0fe6b7e2)) (And.intro (oq_60c9248f) (hps11p)))) | omega) (Nat.lt_succ_self _) ?_)))))))
        intro s15 x16 x17 x18 Is15 Fs15 JRLx_s15 hs15
        have b19 := bi_73 Is15
        have b20 := bi_89 Is15
        refine z_load_n X (x := y) rfl (List.Mem.tail _ (List.Mem.tail _ (List.Mem.head _))) (z_const X rfl ?_)
        have N21 : ∀ e22 : Int, (((y ≠ (-1)) ∧ (y ≠ (-2)) ∧ ((0 : Int) ≤ iC s15 395 (y).toNat ∧ iC s15 395 (y).toNat ≤ 5) ∧ e22 = (iC s15 395 (y).toNat)) ∨ ((y ≠ (-1)) ∧ (y = (-2)) ∧ e22 = x17) ∨ ((y = (-1)) ∧ e22 = x16)) → WS k 142 [(0, .ref (A 179)), (1, .int (Int32.ofInt x)), (2, .int (Int32.ofInt y)), (3, .int (Int32.ofInt x16)), (4, .int (Int32.ofInt x17)), (5, .int (Int32.ofInt x18))] [.int (Int32.ofInt e22)] (Wd A dT s15) 0 0 := by
          intro e22 he22
          exact w_iret X.1 q hRt rfl (ax_d X (show cdA 272 142 = some (.ireturn, 1, 0, 0, 0) from rfl)) (Nat.zero_le _) (Nat.zero_le _) ⟨_, rfl, Is15, Fs15, JRLx_s15, e22, rfl, ⟨by first | exact oq_81f9594b he22 hs15.2.2.1.1 hs15.2.1.1 | omega, by first | exact oq_fb0e2291 he22 hs15.2.2.2.1 hs15.2.2.1.2 hs15.2.1.2 | omega⟩, by first | exact hs15.2.2.2.2 | omega⟩
        refine z_icmp_ne X (t := 125) rfl rfl ⟨by first | exact p1.1 | omega, by first | exact p1.2 | omega⟩ (by decide) (fun g23 => ?_) (fun g23 => ?_)
        ·
          refine z_load_n X (x := y) rfl (List.Mem.tail _ (List.Mem.tail _ (List.Mem.head _))) (z_bipush X rfl (z_icmp_ne X (t := 136) rfl rfl ⟨by first | exact p1.1 | omega, by first | exact p1.2 | omega⟩ (by decide) (fun g24 => ?_) (fun g24 => ?_)))
          ·
            refine z_aload_n X (x := A 179) rfl (List.Mem.head _) (s_getR X 179 rfl (c518_ok rfl) rfl rfl (z_load_n X (x := y) rfl (List.Mem.tail _ (List.Mem.tail _ (List.Mem.head _))) (z_ald X 450 rfl (c518_ok rfl) rfl (by first | exact oq_52fc8c25 g24 g23 hs15.1.1 | omega) (show y < 24 by first | exact oq_7fdb8aa6 hs15.1.2 | omega) (cbig_ok rfl) ?_)))
            have b25 := bc_395 Is15 (show (y).toNat < 24 by first | exact oq_138251d6 hs15.1.2 | omega)
            exact N21 _ (Or.inl ⟨g23, g24, b25, rfl⟩)
          ·
            exact z_load X (x := x17) rfl (List.Mem.tail _ (List.Mem.tail _ (List.Mem.tail _ (List.Mem.tail _ (List.Mem.head _))))) (z_goto X (t := 142) rfl rfl (N21 _ (Or.inr (Or.inl ⟨g23, g24, rfl⟩))))
        ·
          exact z_load_n X (x := x16) rfl (List.Mem.tail _ (List.Mem.tail _ (List.Mem.tail _ (List.Mem.head _)))) (z_goto X (t := 142) rfl rfl (N21 _ (Or.inr (Or.inr (⟨g23, rfl⟩)))))
      ·
        refine z_const X rfl ?_
        exact w_iret X.1 q hRt rfl (ax_d X (show cdA 272 50 = some (.ireturn, 1, 0, 0, 0) from rfl)) (Nat.zero_le _) (Nat.zero_le _) ⟨_, rfl, Is11, Gs11, JRLx_s11, (-1), rfl, (by decide), by first | exact hps11.2 | omega⟩
    ·
      refine z_const X rfl ?_
      exact w_iret X.1 q hRt rfl (ax_d X (show cdA 272 40 = some (.ireturn, 1, 0, 0, 0) from rfl)) (Nat.zero_le _) (Nat.zero_le _) ⟨_, rfl, Is7, Gs7, JRLx_s7, 0, rfl, (by decide), by first | exact oq_29301542 ws7_89 ws4_89 ws3_89 p2 b2.1 | omega⟩
  ·
    refine z_load_n X (x := y) rfl (List.Mem.tail _ (List.Mem.tail _ (List.Mem.head _))) (z_bipush X rfl (z_bipush X rfl (zcS_i0 X E (As := [.int (Int32.ofInt y), .int (Int32.ofInt (-2)), .int (Int32.ofInt 23)]) (st := [.ref (A 179)]) rfl rfl (k_in G Is4 (by first | exact ⟨p1.1, p1.2⟩ | omega) (by first | exact ⟨by decide, by decide⟩ | omega) (by first | exact ⟨by decide, by decide⟩ | omega)) rfl (Nat.le_of_ble_eq_true rfl) (fun s26 e27 Is26 Fs26 hrs26 hps26 => ?_))))
    have Gs26 := fm_tq Gs4 Fs26 rfl rfl
    have JRLx_s26 : RLx s26 := RLx_fm Fs26 (by decide) JRLx_s4
    have ws26_73 : iI s26 73 = iI s4 73 := fm_iq Fs26 rfl
    have ws26_89 : iI s26 89 = iI s4 89 := fm_iq Fs26 rfl
    have N28 : ∀ e29 : Int, (((e27 ≠ 0) ∧ e29 = 0) ∨ ((e27 = 0) ∧ e29 = 1)) → WS k 32 [(0, .ref (A 179)), (1, .int (Int32.ofInt x)), (2, .int (Int32.ofInt y))] [.int (Int32.ofInt e29), .ref (A 179)] (Wd A dT s26) 0 0 := by
      intro e29 he29
      have re29 : 0 ≤ e29 ∧ e29 ≤ 1 := by first | exact And.intro (oq_6d672f13 he29) (oq_ccfe7a71 he29) | (clear he29 hps26 g6 hps4; omega) | (clear hps26 g6 hps4; omega) | omega
      refine z_const X rfl (zcV_i0 X E 179 (As := [.int (Int32.ofInt e29), .int (Int32.ofInt 1)]) (st := []) rfl rfl rfl rfl (k_bad G Is26 (by first | exact oq_31e518ae re29.2 re29.1 | omega) (by first | exact ⟨by decide, by decide⟩ | omega)) rfl (Nat.le_of_ble_eq_true rfl) (fun s30 e31 Is30 Fs30 hrs30 hps30 => ?_))
      have Gs30 := fm_tq Gs26 Fs30 rfl rfl
      have JRLx_s30 : RLx s30 := RLx_fm Fs30 (by decide) JRLx_s26
      have b32 := bi_73 Is30
      have ws30_89 : iI s30 89 = iI s26 89 := fm_iq Fs30 rfl
      refine z_if_eq X (t := 41) rfl rfl hrs30 (fun g33 => ?_) (fun g33 => ?_)
      ·
        refine z_aload_n X (x := A 179) rfl (List.Mem.head _) (z_load_n X (x := x) rfl (List.Mem.tail _ (List.Mem.head _)) (zcV_i1 X E 179 (As := [.int (Int32.ofInt x)]) (st := []) rfl rfl rfl rfl (k_findPlan G Is30 JRLx_s30 (by first | exact ⟨oq_0159bb48 g6 hps4, oq_8b498cf6 g6 hps4⟩ | omega) (by first | exact oq_094d069b ws30_89 ws26_89 ws4_89 ws3_89 p2 b2.1 | omega)) rfl (Nat.le_of_ble_eq_true rfl) (fun s34 e35 Is34 Fs34 JRLx_s34 hrs34 hps34 => ?_)))
        have hps34p := hps34.2
        have Gs34 := fm_ts Gs30 Fs34 (by decide) (by decide +kernel)
        have JRLx_s34 : RLx s34 := RLx_fm Fs34 (by decide) JRLx_s30
        have ws34_73 : iI s34 73 = iI s30 73 := fm_iq Fs34 rfl
        have b36 := bi_89 Is34
        refine z_if_ne X (t := 51) rfl rfl hrs34 (fun g37 => ?_) (fun g37 => ?_)
        ·
          refine z_const X rfl (z_store_n X (lv' := [(3, .int (Int32.ofInt 0)), (0, .ref (A 179)), (1, .int (Int32.ofInt x)), (2, .int (Int32.ofInt y))]) rfl (by decide) (fun _ h => h) (z_const X rfl (z_store X (lv' := [(4, .int (Int32.ofInt 0)), (3, .int (Int32.ofInt 0)), (0, .ref (A 179)), (1, .int (Int32.ofInt x)), (2, .int (Int32.ofInt y))]) rfl (by decide) (fun _ h => h) (z_const X rfl (z_store X (lv' := [(5, .int (Int32.ofInt 0)), (4, .int (Int32.ofInt 0)), (3, .int (Int32.ofInt 0)), (0, .ref (A 179)), (1, .int (Int32.ofInt x)), (2, .int (Int32.ofInt y))]) rfl (by decide) (fun _ h => h) (WS_pq [3, 4, 5, 2, 1, 0] (lv' := [(0, .ref (A 179)), (1, .int (Int32.ofInt x)), (2, .int (Int32.ofInt y)), (3, .int (Int32.ofInt 0)), (4, .int (Int32.ofInt 0)), (5, .int (Int32.ofInt 0))]) rfl (L59 ((24 - 0 : Int).toNat + 1) s34 x y 0 0 0 Is34 Gs34 JRLx_s34 (by first | exact ⟨oq_b7c2a8c5 g33 hps30.2.1 re29.2 he29 hps26, And.intro (by decide) (by decide), And.intro (by decide) (by decide), by decide, hps34.2⟩ | omega) (Nat.lt_succ_self _) ?_)))))))
          intro s38 x39 x40 x41 Is38 Fs38 JRLx_s38 hs38
          have b42 := bi_73 Is38
          have b43 := bi_89 Is38
          refine z_load_n X (x := y) rfl (List.Mem.tail _ (List.Mem.tail _ (List.Mem.head _))) (z_const X rfl ?_)
          have N44 : ∀ e45 : Int, (((y ≠ (-1)) ∧ (y ≠ (-2)) ∧ ((0 : Int) ≤ iC s38 395 (y).toNat ∧ iC s38 395 (y).toNat ≤ 5) ∧ e45 = (iC s38 395 (y).toNat)) ∨ ((y ≠ (-1)) ∧ (y = (-2)) ∧ e45 = x40) ∨ ((y = (-1)) ∧ e45 = x39)) → WS k 142 [(0, .ref (A 179)), (1, .int (Int32.ofInt x)), (2, .int (Int32.ofInt y)), (3, .int (Int32.ofInt x39)), (4, .int (Int32.ofInt x40)), (5, .int (Int32.ofInt x41))] [.int (Int32.ofInt e45)] (Wd A dT s38) 0 0 := by
            intro e45 he45
            exact w_iret X.1 q hRt rfl (ax_d X (show cdA 272 142 = some (.ireturn, 1, 0, 0, 0) from rfl)) (Nat.zero_le _) (Nat.zero_le _) ⟨_, rfl, Is38, Fs38, JRLx_s38, e45, rfl, ⟨by first | exact oq_81f9594b he45 hs38.2.2.1.1 hs38.2.1.1 | omega, by first | exact oq_fb0e2291 he45 hs38.2.2.2.1 hs38.2.2.1.2 hs38.2.1.2 | omega⟩, by first | exact hs38.2.2.2.2 | omega⟩
          refine z_icmp_ne X (t := 125) rfl rfl ⟨by first | exact p1.1 | omega, by first | exact p1.2 | omega⟩ (by decide) (fun g46 => ?_) (fun g46 => ?_)
          ·
            refine z_load_n X (x := y) rfl (List.Mem.tail _ (List.Mem.tail _ (List.Mem.head _))) (z_bipush X rfl (z_icmp_ne X (t := 136) rfl rfl ⟨by first | exact p1.1 | omega, by first | exact p1.2 | omega⟩ (by decide) (fun g47 => ?_) (fun g47 => ?_)))
            ·
              refine z_aload_n X (x := A 179) rfl (List.Mem.head _) (s_getR X 179 rfl (c518_ok rfl) rfl rfl (z_load_n X (x := y) rfl (List.Mem.tail _ (List.Mem.tail _ (List.Mem.head _))) (z_ald X 450 rfl (c518_ok rfl) rfl (by first | exact oq_52fc8c25 g47 g46 hs38.1.1 | omega) (show y < 24 by first | exact oq_7fdb8aa6 hs38.1.2 | omega) (cbig_ok rfl) ?_)))
              have b48 := bc_395 Is38 (show (y).toNat < 24 by first | exact oq_138251d6 hs38.1.2 | omega)
              exact N44 _ (Or.inl ⟨g46, g47, b48, rfl⟩)
            ·
              exact z_load X (x := x40) rfl (List.Mem.tail _ (List.Mem.tail _ (List.Mem.tail _ (List.Mem.tail _ (List.Mem.head _))))) (z_goto X (t := 142) rfl rfl (N44 _ (Or.inr (Or.inl ⟨g46, g47, rfl⟩))))
          ·
            exact z_load_n X (x := x39) rfl (List.Mem.tail _ (List.Mem.tail _ (List.Mem.tail _ (List.Mem.head _)))) (z_goto X (t := 142) rfl rfl (N44 _ (Or.inr (Or.inr (⟨g46, rfl⟩)))))
        ·
          refine z_const X rfl ?_
          exact w_iret X.1 q hRt rfl (ax_d X (show cdA 272 50 = some (.ireturn, 1, 0, 0, 0) from rfl)) (Nat.zero_le _) (Nat.zero_le _) ⟨_, rfl, Is34, Gs34, JRLx_s34, (-1), rfl, (by decide), by first | exact hps34.2 | omega⟩
      ·
        refine z_const X rfl ?_
        exact w_iret X.1 q hRt rfl (ax_d X (show cdA 272 40 = some (.ireturn, 1, 0, 0, 0) from rfl)) (Nat.zero_le _) (Nat.zero_le _) ⟨_, rfl, Is30, Gs30, JRLx_s30, 0, rfl, (by decide), by first | exact oq_094d069b ws30_89 ws26_89 ws4_89 ws3_89 p2 b2.1 | omega⟩
    refine z_if_ne X (t := 31) rfl rfl hrs26 (fun g49 => ?_) (fun g49 => ?_)
    ·
      exact z_const X rfl (N28 _ (Or.inl ⟨g49, rfl⟩))
    ·
      exact z_const X rfl (z_goto X (t := 32) rfl rfl (N28 _ (Or.inr (⟨g49, rfl⟩))))
set_option maxRecDepth 4000 in
theorem k_findRota (G : GX l s0 D tys a0 dT) (I : Bd s) {x : Int} (p0 : 1 ≤ x ∧ x ≤ 8) : CT l s0 D A dT 275 (rmN 275) [.ref (A 179), .int (Int32.ofInt x)] s (fun o t => Bd t ∧ Fm [104] [397] s t ∧ o = .inl none ∧ (True)) := by
  refine ct_of G (by decide) (Nat.le_of_ble_eq_true rfl) (fun k X E hRt hXt q => ?_)
  show WS k 0 [(0, .ref (A 179)), (1, .int (Int32.ofInt x))] [] _ 0 0
  have F : Fm [104] [397] s s := fm_rf _ _ s
  have jEX : True := trivial
  refine z_bipush X rfl (z_newX X (n := 8) (by decide) rfl (by rw [E.2.2.2]; decide) (by rw [E.2.2.2]; decide) (fun q1 => ?_))
  refine z_astore_n X (lv' := [(2, .ref q1), (0, .ref (A 179)), (1, .int (Int32.ofInt x))]) rfl (by decide) (fun _ h => h) (z_bipush X rfl (z_newX X (n := 8) (by decide) rfl (by rw [E.2.2.2]; decide) (by rw [E.2.2.2]; decide) (fun q2 => ?_)))
  refine z_astore_n X (lv' := [(3, .ref q2), (2, .ref q1), (0, .ref (A 179)), (1, .int (Int32.ofInt x))]) rfl (by decide) (fun _ h => h) (z_bipush X rfl (z_newX X (n := 8) (by decide) rfl (by rw [E.2.2.2]; decide) (by rw [E.2.2.2]; decide) (fun q3 => ?_)))
  refine z_astore X (lv' := [(4, .ref q3), (3, .ref q2), (2, .ref q1), (0, .ref (A 179)), (1, .int (Int32.ofInt x))]) rfl (by decide) (fun _ h => h) ?_
  have eX0 : EXl (pX s) (dT 0) [(q1, 8), (q2, 8), (q3, 8)] (sx (sx (sx s (pX s ++ [(q1, .inl (dT 0, 8, .inl (fun _ => 0)))])) (pX (sx s (pX s ++ [(q1, .inl (dT 0, 8, .inl (fun _ => 0)))])) ++ [(q2, .inl (dT 0, 8, .inl (fun _ => 0)))])) (pX (sx (sx s (pX s ++ [(q1, .inl (dT 0, 8, .inl (fun _ => 0)))])) (pX (sx s (pX s ++ [(q1, .inl (dT 0, 8, .inl (fun _ => 0)))])) ++ [(q2, .inl (dT 0, 8, .inl (fun _ => 0)))])) ++ [(q3, .inl (dT 0, 8, .inl (fun _ => 0)))])) := ⟨fun _ _ => 0, by show (((pX s ++ [_]) ++ [_]) ++ [_]) = _; rw [List.append_assoc, List.append_assoc]; rfl⟩
  have It0 : Bd (sx (sx (sx s (pX s ++ [(q1, .inl (dT 0, 8, .inl (fun _ => 0)))])) (pX (sx s (pX s ++ [(q1, .inl (dT 0, 8, .inl (fun _ => 0)))])) ++ [(q2, .inl (dT 0, 8, .inl (fun _ => 0)))])) (pX (sx (sx s (pX s ++ [(q1, .inl (dT 0, 8, .inl (fun _ => 0)))])) (pX (sx s (pX s ++ [(q1, .inl (dT 0, 8, .inl (fun _ => 0)))])) ++ [(q2, .inl (dT 0, 8, .inl (fun _ => 0)))])) ++ [(q3, .inl (dT 0, 8, .inl (fun _ => 0)))])) := I
  have Ft0 : FmX [104] [397] s (sx (sx (sx s (pX s ++ [(q1, .inl (dT 0, 8, .inl (fun _ => 0)))])) (pX (sx s (pX s ++ [(q1, .inl (dT 0, 8, .inl (fun _ => 0)))])) ++ [(q2, .inl (dT 0, 8, .inl (fun _ => 0)))])) (pX (sx (sx s (pX s ++ [(q1, .inl (dT 0, 8, .inl (fun _ => 0)))])) (pX (sx s (pX s ++ [(q1, .inl (dT 0, 8, .inl (fun _ => 0)))])) ++ [(q2, .inl (dT 0, 8, .inl (fun _ => 0)))])) ++ [(q3, .inl (dT 0, 8, .inl (fun _ => 0)))])) := ⟨fun _ _ => rfl, fun _ _ => rfl, fun _ _ => rfl, fun _ _ => rfl⟩
  obtain ⟨t0, ht0⟩ : ∃ t0, t0 = (sx (sx (sx s (pX s ++ [(q1, .inl (dT 0, 8, .inl (fun _ => 0)))])) (pX (sx s (pX s ++ [(q1, .inl (dT 0, 8, .inl (fun _ => 0)))])) ++ [(q2, .inl (dT 0, 8, .inl (fun _ => 0)))])) (pX (sx (sx s (pX s ++ [(q1, .inl (dT 0, 8, .inl (fun _ => 0)))])) (pX (sx s (pX s ++ [(q1, .inl (dT 0, 8, .inl (fun _ => 0)))])) ++ [(q2, .inl (dT 0, 8, .inl (fun _ => 0)))])) ++ [(q3, .inl (dT 0, 8, .inl (fun _ => 0)))])) := ⟨_, rfl⟩
  rw [← ht0] at eX0 It0 Ft0
  rw [← ht0]
  clear ht0
  show WS k 16 [(4, .ref q3), (3, .ref q2), (2, .ref q1), (0, .ref (A 179)), (1, .int (Int32.ofInt x))] [] (Wd A dT t0) 3 24
  have L19 : ∀ (n : Nat) (t : PS) (xv p : Int), Bd t → FmX [104] [397] s t → EXl (pX s) (dT 0) [(q1, 8), (q2, 8), (q3, 8)] t → ((1 ≤ xv ∧ xv ≤ 8) ∧ 0 ≤ p ∧ p ≤ 8) → (8 - p : Int).toNat < n → (∀ (t' : PS) (p' : Int), Bd t' → FmX [104] [397] s t' → EXl (pX s) (dT 0) [(q1, 8), (q2, 8), (q3, 8)] t' → ((1 ≤ xv ∧ xv ≤ 8) ∧ 0 ≤ p' ∧ p' ≤ 8) → WS k 39 [(0, .ref (A 179)), (2, .ref q1), (3, .ref q2), (4, .ref q3), (1, .int (Int32.ofInt xv)), (5, .int (Int32.ofInt p'))] [] (Wd A dT t') 3 24) → WS k 19 [(0, .ref (A 179)), (2, .ref q1), (3, .ref q2), (4, .ref q3), (1, .int (Int32.ofInt xv)), (5, .int (Int32.ofInt p))] [] (Wd A dT t) 3 24 := by
    intro n
    induction n with
    | zero =>
      intro t xv p I F jjEX hi hm kx
      exact absurd hm (Nat.not_lt_zero _)
    | succ n ih =>
      intro t xv p I F jjEX hi hm kx
      refine z_load X (x := p) rfl (List.Mem.tail _ (List.Mem.tail _ (List.Mem.tail _ (List.Mem.tail _ (List.Mem.tail _ (List.Mem.head _)))))) (z_bipush X rfl (z_icmp_ge X (t := 39) rfl rfl ⟨by first | exact oq_fa4e5087 hi.2.1 | omega, by first | exact oq_d3f5d874 hi.2.2 | omega⟩ (by decide) (fun g1001 => ?_) (fun g1001 => ?_)))
      ·
        refine WS_pq [0, 1, 2, 3, 4, 5] (lv' := [(0, .ref (A 179)), (2, .ref q1), (3, .ref q2), (4, .ref q3), (1, .int (Int32.ofInt xv)), (5, .int (Int32.ofInt p))]) rfl ?_
        exact kx _ p I F jjEX (by first | exact ⟨And.intro (hi.1.1) (hi.1.2), hi.2.1, hi.2.2⟩ | omega)
      ·
        refine z_aload X (x := q3) rfl (List.Mem.tail _ (List.Mem.tail _ (List.Mem.tail _ (List.Mem.head _)))) (z_load X (x := p) rfl (List.Mem.tail _ (List.Mem.tail _ (List.Mem.tail _ (List.Mem.tail _ (List.Mem.tail _ (List.Mem.head _)))))) (z_bipush X rfl (z_xast X jjEX 2 rfl rfl (by first | exact hi.2.1 | omega) (show p < 8 by first | exact g1001 | omega) (by decide) (fun ps1002 es1002 => ?_))))
        have Is1002 : Bd (sx t ps1002) := I
        have Fs1002 : FmX [104] [397] s (sx t ps1002) := F
        generalize sx t ps1002 = s1002 at *
        refine z_inc X (x := p) (lv' := [(5, .int (Int32.ofInt (p + 1))), (0, .ref (A 179)), (2, .ref q1), (3, .ref q2), (4, .ref q3), (1, .int (Int32.ofInt xv))]) rfl (by decide) (List.Mem.tail _ (List.Mem.tail _ (List.Mem.tail _ (List.Mem.tail _ (List.Mem.tail _ (List.Mem.head _)))))) (fun _ h => h) (z_goto X (t := 19) rfl rfl (WS_pq [1, 2, 3, 4, 5, 0] (lv' := [(0, .ref (A 179)), (2, .ref q1), (3, .ref q2), (4, .ref q3), (1, .int (Int32.ofInt xv)), (5, .int (Int32.ofInt (p + 1)))]) rfl ?_))
        exact ih _ xv (p + 1) Is1002 Fs1002 es1002 (by first | exact ⟨And.intro (hi.1.1) (hi.1.2), oq_54f49eb5 hi.2.1, oq_0c7b19c3 g1001⟩ | omega) (by first | exact qk_me hm (by decide) (oq_9f368f35 g1001) | exact oq_1ef5cbe1 g1001 hm | omega) kx
  have L100 : ∀ (n : Nat) (t : PS) (xv qq wa tu be p : Int), Bd t → FmX [104] [397] s t → EXl (pX s) (dT 0) [(q1, 8), (q2, 8), (q3, 8)] t → ((1 ≤ xv ∧ xv ≤ 8) ∧ (0 ≤ qq ∧ qq ≤ 23) ∧ rng wa ∧ (0 ≤ tu ∧ tu ≤ 1) ∧ (-1 ≤ be ∧ be ≤ 7) ∧ 0 ≤ p ∧ p ≤ 8) → (8 - p : Int).toNat < n → (∀ (t' : PS) (be' p' : Int), Bd t' → FmX [104] [397] s t' → EXl (pX s) (dT 0) [(q1, 8), (q2, 8), (q3, 8)] t' → ((1 ≤ xv ∧ xv ≤ 8) ∧ (0 ≤ qq ∧ qq ≤ 23) ∧ rng wa ∧ (0 ≤ tu ∧ tu ≤ 1) ∧ (-1 ≤ be' ∧ be' ≤ 7) ∧ 0 ≤ p' ∧ p' ≤ 8) → WS k 227 [(0, .ref (A 179)), (2, .ref q1), (3, .ref q2), (4, .ref q3), (1, .int (Int32.ofInt xv)), (5, .int (Int32.ofInt qq)), (6, .int (Int32.ofInt wa)), (7, .int (Int32.ofInt tu)), (8, .int (Int32.ofInt be')), (9, .int (Int32.ofInt p'))] [] (Wd A dT t') 3 24) → WS k 100 [(0, .ref (A 179)), (2, .ref q1), (3, .ref q2), (4, .ref q3), (1, .int (Int32.ofInt xv)), (5, .int (Int32.ofInt qq)), (6, .int (Int32.ofInt wa)), (7, .int (Int32.ofInt tu)), (8, .int (Int32.ofInt be)), (9, .int (Int32.ofInt p))] [] (Wd A dT t) 3 24 := by
    as_aux_lemma =>
     intro n
     induction n with
     | zero =>
       intro t xv qq wa tu be p I F jjEX hi hm kx
       exact absurd hm (Nat.not_lt_zero _)
     | succ n ih =>
       intro t xv qq wa tu be p I F jjEX hi hm kx
       refine z_load X (x := p) rfl (List.Mem.tail _ (List.Mem.tail _ (List.Mem.tail _ (List.Mem.tail _ (List.Mem.tail _ (List.Mem.tail _ (List.Mem.tail _ (List.Mem.tail _ (List.Mem.tail _ (List.Mem.head _)))))))))) (z_load_n X (x := xv) rfl (List.Mem.tail _ (List.Mem.tail _ (List.Mem.tail _ (List.Mem.tail _ (List.Mem.head _))))) (z_icmp_ge X (t := 227) rfl rfl ⟨by first | exact oq_fa4e5087 hi.2.2.2.2.2.1 | omega, by first | exact oq_d3f5d874 hi.2.2.2.2.2.2 | omega⟩ ⟨by first | exact oq_9462313e hi.1.1 | omega, by first | exact oq_d3f5d874 hi.1.2 | omega⟩ (fun g2001 => ?_) (fun g2001 => ?_)))
       ·
         refine WS_pq [0, 1, 2, 3, 4, 5, 6, 7, 8, 9] (lv' := [(0, .ref (A 179)), (2, .ref q1), (3, .ref q2), (4, .ref q3), (1, .int (Int32.ofInt xv)), (5, .int (Int32.ofInt qq)), (6, .int (Int32.ofInt wa)), (7, .int (Int32.ofInt tu)), (8, .int (Int32.ofInt be)), (9, .int (Int32.ofInt p))]) rfl ?_
         exact kx _ be p I F jjEX (by first | exact ⟨And.intro (hi.1.1) (hi.1.2), And.intro (hi.2.1.1) (hi.2.1.2), And.intro (hi.2.2.1.1) (hi.2.2.1.2), And.intro (hi.2.2.2.1.1) (hi.2.2.2.1.2), And.intro (hi.2.2.2.2.1.1) (hi.2.2.2.2.1.2), hi.2.2.2.2.2.1, hi.2.2.2.2.2.2⟩ | omega)
       ·
         refine z_aload_n X (x := A 179) rfl (List.Mem.head _) (s_getR X 179 rfl (c518_ok rfl) rfl rfl (z_load X (x := qq) rfl (List.Mem.tail _ (List.Mem.tail _ (List.Mem.tail _ (List.Mem.tail _ (List.Mem.tail _ (List.Mem.head _)))))) (z_ald X 452 rfl (c518_ok rfl) rfl (by first | exact hi.2.1.1 | omega) (show qq < 24 by first | exact oq_7fdb8aa6 hi.2.1.2 | omega) (cbig_ok rfl) ?_)))
         have b2002 := bc_397 I (show (qq).toNat < 24 by first | exact oq_138251d6 hi.2.1.2 | omega)
         refine z_load X (x := p) rfl (List.Mem.tail _ (List.Mem.tail _ (List.Mem.tail _ (List.Mem.tail _ (List.Mem.tail _ (List.Mem.tail _ (List.Mem.tail _ (List.Mem.tail _ (List.Mem.tail _ (List.Mem.head _)))))))))) (z_bshr X rfl (z_any (fun y2003 hy2003 => ?_)))
         refine z_const X rfl (z_andm X rfl (by decide) (by decide) (fun y2004 hy2004 gy2004 => ?_))
         refine z_const X rfl (z_icmp_eq X (t := 221) rfl rfl ⟨by first | exact oq_fa4e5087 hy2004 | omega, by first | exact oq_22e1e6b0 gy2004 | omega⟩ (by decide) (fun g2005 => ?_) (fun g2005 => ?_))
         ·
           refine z_inc X (x := p) (lv' := [(9, .int (Int32.ofInt (p + 1))), (0, .ref (A 179)), (2, .ref q1), (3, .ref q2), (4, .ref q3), (1, .int (Int32.ofInt xv)), (5, .int (Int32.ofInt qq)), (6, .int (Int32.ofInt wa)), (7, .int (Int32.ofInt tu)), (8, .int (Int32.ofInt be))]) rfl (by decide) (List.Mem.tail _ (List.Mem.tail _ (List.Mem.tail _ (List.Mem.tail _ (List.Mem.tail _ (List.Mem.tail _ (List.Mem.tail _ (List.Mem.tail _ (List.Mem.tail _ (List.Mem.head _)))))))))) (fun _ h => h) (z_goto X (t := 100) rfl rfl (WS_pq [1, 2, 3, 4, 5, 6, 7, 8, 9, 0] (lv' := [(0, .ref (A 179)), (2, .ref q1), (3, .ref q2), (4, .ref q3), (1, .int (Int32.ofInt xv)), (5, .int (Int32.ofInt qq)), (6, .int (Int32.ofInt wa)), (7, .int (Int32.ofInt tu)), (8, .int (Int32.ofInt be)), (9, .int (Int32.ofInt (p + 1)))]) rfl ?_))
           exact ih _ xv qq wa tu be (p + 1) I F jjEX (by first | exact ⟨And.intro (hi.1.1) (hi.1.2), And.intro (hi.2.1.1) (hi.2.1.2), And.intro (hi.2.2.1.1) (hi.2.2.1.2), And.intro (hi.2.2.2.1.1) (hi.2.2.2.1.2), And.intro (hi.2.2.2.2.1.1) (hi.2.2.2.2.1.2), oq_54f49eb5 hi.2.2.2.2.2.1, oq_f6204d84 g2001 hi.1.2⟩ | omega) (by first | exact qk_me hm (by decide) (oq_ccc5e5e0 g2001 hi.1.2) | exact oq_1de3c892 g2001 hm hi.1.2 | omega) kx
         ·
           as_aux_lemma =>
            refine z_load X (x := qq) rfl (List.Mem.tail _ (List.Mem.tail _ (List.Mem.tail _ (List.Mem.tail _ (List.Mem.tail _ (List.Mem.head _)))))) (z_aload_n X (x := A 179) rfl (List.Mem.head _) (s_getR X 179 rfl (c518_ok rfl) rfl rfl (z_load X (x := p) rfl (List.Mem.tail _ (List.Mem.tail _ (List.Mem.tail _ (List.Mem.tail _ (List.Mem.tail _ (List.Mem.tail _ (List.Mem.tail _ (List.Mem.tail _ (List.Mem.tail _ (List.Mem.head _)))))))))) (z_ald X 453 rfl (c518_ok rfl) rfl (by first | exact hi.2.2.2.2.2.1 | omega) (show p < 8 by first | exact oq_7f5b2e79 g2001 hi.1.2 | omega) (cbig_ok rfl) ?_))))
            have b2006 := bc_398 I (show (p).toNat < 8 by first | exact oq_67be0351 g2001 hi.1.2 | omega)
            refine z_icmp_lt X (t := 137) rfl rfl ⟨by first | exact oq_fa4e5087 hi.2.1.1 | omega, by first | exact oq_1a42ef34 hi.2.1.2 | omega⟩ (rng_to _) (fun g2007 => ?_) (fun g2007 => ?_)
            ·
              refine z_load X (x := tu) rfl (List.Mem.tail _ (List.Mem.tail _ (List.Mem.tail _ (List.Mem.tail _ (List.Mem.tail _ (List.Mem.tail _ (List.Mem.tail _ (List.Mem.head _)))))))) (z_if_ne X (t := 173) rfl rfl ⟨by first | exact oq_fa4e5087 hi.2.2.2.1.1 | omega, by first | exact oq_22e1e6b0 hi.2.2.2.1.2 | omega⟩ (fun g2008 => ?_) (fun g2008 => ?_))
              ·
                refine z_aload X (x := q3) rfl (List.Mem.tail _ (List.Mem.tail _ (List.Mem.tail _ (List.Mem.head _)))) (z_load X (x := p) rfl (List.Mem.tail _ (List.Mem.tail _ (List.Mem.tail _ (List.Mem.tail _ (List.Mem.tail _ (List.Mem.tail _ (List.Mem.tail _ (List.Mem.tail _ (List.Mem.tail _ (List.Mem.head _)))))))))) (z_xald X jjEX 2 rfl rfl (by first | exact hi.2.2.2.2.2.1 | omega) (show p < 8 by first | exact oq_7f5b2e79 g2001 hi.1.2 | omega) (by decide) (fun y2009 hy2009 => ?_)))
                refine z_load X (x := qq) rfl (List.Mem.tail _ (List.Mem.tail _ (List.Mem.tail _ (List.Mem.tail _ (List.Mem.tail _ (List.Mem.head _)))))) (z_aload_n X (x := A 179) rfl (List.Mem.head _) (z_getI X 179 rfl (c518_ok rfl) rfl rfl ?_))
                have b2010 := bi_103 I
                refine z_sub X rfl ?_
                have N2011 : ∀ e2012 : Int, ((((qq - (iI t 103)) ≤ y2009) ∧ e2012 = 0) ∨ ((y2009 < (qq - (iI t 103))) ∧ e2012 = 1)) → WS k 193 [(0, .ref (A 179)), (2, .ref q1), (3, .ref q2), (4, .ref q3), (1, .int (Int32.ofInt xv)), (5, .int (Int32.ofInt qq)), (6, .int (Int32.ofInt wa)), (7, .int (Int32.ofInt tu)), (8, .int (Int32.ofInt be)), (9, .int (Int32.ofInt p))] [.int (Int32.ofInt e2012)] (Wd A dT t) 3 24 := by
                  intro e2012 he2012
                  have re2012 : 0 ≤ e2012 ∧ e2012 ≤ 1 := by first | exact And.intro (oq_16ebe683 he2012) (oq_4b76e3df he2012) | (clear he2012 g2008 g2005; omega) | (clear g2008 g2005; omega) | omega
                  refine z_store X (lv' := [(10, .int (Int32.ofInt e2012)), (0, .ref (A 179)), (2, .ref q1), (3, .ref q2), (4, .ref q3), (1, .int (Int32.ofInt xv)), (5, .int (Int32.ofInt qq)), (6, .int (Int32.ofInt wa)), (7, .int (Int32.ofInt tu)), (8, .int (Int32.ofInt be)), (9, .int (Int32.ofInt p))]) rfl (by decide) (fun _ h => h) (z_load X (x := e2012) rfl (List.Mem.head _) (z_if_eq X (t := 221) rfl rfl ⟨by first | exact oq_fa4e5087 re2012.1 | omega, by first | exact oq_22e1e6b0 re2012.2 | omega⟩ (fun g2013 => ?_) (fun g2013 => ?_)))
                  ·
                    refine z_inc X (x := p) (lv' := [(9, .int (Int32.ofInt (p + 1))), (10, .int (Int32.ofInt e2012)), (0, .ref (A 179)), (2, .ref q1), (3, .ref q2), (4, .ref q3), (1, .int (Int32.ofInt xv)), (5, .int (Int32.ofInt qq)), (6, .int (Int32.ofInt wa)), (7, .int (Int32.ofInt tu)), (8, .int (Int32.ofInt be))]) rfl (by decide) (List.Mem.tail _ (List.Mem.tail _ (List.Mem.tail _ (List.Mem.tail _ (List.Mem.tail _ (List.Mem.tail _ (List.Mem.tail _ (List.Mem.tail _ (List.Mem.tail _ (List.Mem.tail _ (List.Mem.head _))))))))))) (fun _ h => h) (z_goto X (t := 100) rfl rfl (WS_pq [2, 3, 4, 5, 6, 7, 8, 9, 10, 0] (lv' := [(0, .ref (A 179)), (2, .ref q1), (3, .ref q2), (4, .ref q3), (1, .int (Int32.ofInt xv)), (5, .int (Int32.ofInt qq)), (6, .int (Int32.ofInt wa)), (7, .int (Int32.ofInt tu)), (8, .int (Int32.ofInt be)), (9, .int (Int32.ofInt (p + 1)))]) rfl ?_))
                    exact ih _ xv qq wa tu be (p + 1) I F jjEX (by first | exact ⟨And.intro (hi.1.1) (hi.1.2), And.intro (hi.2.1.1) (hi.2.1.2), And.intro (hi.2.2.1.1) (hi.2.2.1.2), And.intro (hi.2.2.2.1.1) (hi.2.2.2.1.2), And.intro (hi.2.2.2.2.1.1) (hi.2.2.2.2.1.2), oq_54f49eb5 hi.2.2.2.2.2.1, oq_f6204d84 g2001 hi.1.2⟩ | omega) (by first | exact qk_me hm (by decide) (oq_ccc5e5e0 g2001 hi.1.2) | exact oq_1de3c892 g2001 hm hi.1.2 | omega) kx
                  ·
                    as_aux_lemma =>
                     refine z_load X (x := be) rfl (List.Mem.tail _ (List.Mem.tail _ (List.Mem.tail _ (List.Mem.tail _ (List.Mem.tail _ (List.Mem.tail _ (List.Mem.tail _ (List.Mem.tail _ (List.Mem.tail _ (List.Mem.head _)))))))))) (z_const X rfl (z_icmp_eq X (t := 217) rfl rfl ⟨by first | exact oq_97ee2c2a hi.2.2.2.2.1.1 | omega, by first | exact oq_0e78ca7d hi.2.2.2.2.1.2 | omega⟩ (by decide) (fun g2014 => ?_) (fun g2014 => ?_)))
                     ·
                       refine z_load X (x := p) rfl (List.Mem.tail _ (List.Mem.tail _ (List.Mem.tail _ (List.Mem.tail _ (List.Mem.tail _ (List.Mem.tail _ (List.Mem.tail _ (List.Mem.tail _ (List.Mem.tail _ (List.Mem.tail _ (List.Mem.head _))))))))))) (z_store X (lv' := [(8, .int (Int32.ofInt p)), (10, .int (Int32.ofInt e2012)), (0, .ref (A 179)), (2, .ref q1), (3, .ref q2), (4, .ref q3), (1, .int (Int32.ofInt xv)), (5, .int (Int32.ofInt qq)), (6, .int (Int32.ofInt wa)), (7, .int (Int32.ofInt tu)), (9, .int (Int32.ofInt p))]) rfl (by decide) (fun _ h => h) (z_inc X (x := p) (lv' := [(9, .int (Int32.ofInt (p + 1))), (8, .int (Int32.ofInt p)), (10, .int (Int32.ofInt e2012)), (0, .ref (A 179)), (2, .ref q1), (3, .ref q2), (4, .ref q3), (1, .int (Int32.ofInt xv)), (5, .int (Int32.ofInt qq)), (6, .int (Int32.ofInt wa)), (7, .int (Int32.ofInt tu))]) rfl (by decide) (List.Mem.tail _ (List.Mem.tail _ (List.Mem.tail _ (List.Mem.tail _ (List.Mem.tail _ (List.Mem.tail _ (List.Mem.tail _ (List.Mem.tail _ (List.Mem.tail _ (List.Mem.tail _ (List.Mem.head _))))))))))) (fun _ h => h) (z_goto X (t := 100) rfl rfl (WS_pq [3, 4, 5, 6, 7, 8, 9, 10, 1, 0] (lv' := [(0, .ref (A 179)), (2, .ref q1), (3, .ref q2), (4, .ref q3), (1, .int (Int32.ofInt xv)), (5, .int (Int32.ofInt qq)), (6, .int (Int32.ofInt wa)), (7, .int (Int32.ofInt tu)), (8, .int (Int32.ofInt p)), (9, .int (Int32.ofInt (p + 1)))]) rfl ?_))))
                       exact ih _ xv qq wa tu p (p + 1) I F jjEX (by first | exact ⟨And.intro (hi.1.1) (hi.1.2), And.intro (hi.2.1.1) (hi.2.1.2), And.intro (hi.2.2.1.1) (hi.2.2.1.2), And.intro (hi.2.2.2.1.1) (hi.2.2.2.1.2), And.intro (oq_ca54ea22 hi.2.2.2.2.2.1) (oq_e297cd40 g2001 hi.1.2), oq_54f49eb5 hi.2.2.2.2.2.1, oq_f6204d84 g2001 hi.1.2⟩ | omega) (by first | exact qk_me hm (by decide) (oq_ccc5e5e0 g2001 hi.1.2) | exact oq_1de3c892 g2001 hm hi.1.2 | omega) kx
                     ·
                       refine z_aload_n X (x := q1) rfl (List.Mem.tail _ (List.Mem.tail _ (List.Mem.head _))) (z_load X (x := p) rfl (List.Mem.tail _ (List.Mem.tail _ (List.Mem.tail _ (List.Mem.tail _ (List.Mem.tail _ (List.Mem.tail _ (List.Mem.tail _ (List.Mem.tail _ (List.Mem.tail _ (List.Mem.tail _ (List.Mem.head _))))))))))) (z_xald X jjEX 0 rfl rfl (by first | exact hi.2.2.2.2.2.1 | omega) (show p < 8 by first | exact oq_7f5b2e79 g2001 hi.1.2 | omega) (by decide) (fun y2015 hy2015 => ?_)))
                       refine z_aload_n X (x := q1) rfl (List.Mem.tail _ (List.Mem.tail _ (List.Mem.head _))) (z_load X (x := be) rfl (List.Mem.tail _ (List.Mem.tail _ (List.Mem.tail _ (List.Mem.tail _ (List.Mem.tail _ (List.Mem.tail _ (List.Mem.tail _ (List.Mem.tail _ (List.Mem.tail _ (List.Mem.head _)))))))))) (z_xald X jjEX 0 rfl rfl (by first | exact oq_7a1025bf g2014 hi.2.2.2.2.1.1 | omega) (show be < 8 by first | exact oq_aaea290e hi.2.2.2.2.1.2 | omega) (by decide) (fun y2016 hy2016 => ?_)))
                       refine z_icmp_ge X (t := 221) rfl rfl hy2015 hy2016 (fun g2017 => ?_) (fun g2017 => ?_)
                       ·
                         refine z_inc X (x := p) (lv' := [(9, .int (Int32.ofInt (p + 1))), (10, .int (Int32.ofInt e2012)), (0, .ref (A 179)), (2, .ref q1), (3, .ref q2), (4, .ref q3), (1, .int (Int32.ofInt xv)), (5, .int (Int32.ofInt qq)), (6, .int (Int32.ofInt wa)), (7, .int (Int32.ofInt tu)), (8, .int (Int32.ofInt be))]) rfl (by decide) (List.Mem.tail _ (List.Mem.tail _ (List.Mem.tail _ (List.Mem.tail _ (List.Mem.tail _ (List.Mem.tail _ (List.Mem.tail _ (List.Mem.tail _ (List.Mem.tail _ (List.Mem.tail _ (List.Mem.head _))))))))))) (fun _ h => h) (z_goto X (t := 100) rfl rfl (WS_pq [2, 3, 4, 5, 6, 7, 8, 9, 10, 0] (lv' := [(0, .ref (A 179)), (2, .ref q1), (3, .ref q2), (4, .ref q3), (1, .int (Int32.ofInt xv)), (5, .int (Int32.ofInt qq)), (6, .int (Int32.ofInt wa)), (7, .int (Int32.ofInt tu)), (8, .int (Int32.ofInt be)), (9, .int (Int32.ofInt (p + 1)))]) rfl ?_))
                         exact ih _ xv qq wa tu be (p + 1) I F jjEX (by first | exact ⟨And.intro (hi.1.1) (hi.1.2), And.intro (hi.2.1.1) (hi.2.1.2), And.intro (hi.2.2.1.1) (hi.2.2.1.2), And.intro (hi.2.2.2.1.1) (hi.2.2.2.1.2), And.intro (hi.2.2.2.2.1.1) (hi.2.2.2.2.1.2), oq_54f49eb5 hi.2.2.2.2.2.1, oq_f6204d84 g2001 hi.1.2⟩ | omega) (by first | exact qk_me hm (by decide) (oq_ccc5e5e0 g2001 hi.1.2) | exact oq_1de3c892 g2001 hm hi.1.2 | omega) kx
                       ·
                         refine z_load X (x := p) rfl (List.Mem.tail _ (List.Mem.tail _ (List.Mem.tail _ (List.Mem.tail _ (List.Mem.tail _ (List.Mem.tail _ (List.Mem.tail _ (List.Mem.tail _ (List.Mem.tail _ (List.Mem.tail _ (List.Mem.head _))))))))))) (z_store X (lv' := [(8, .int (Int32.ofInt p)), (10, .int (Int32.ofInt e2012)), (0, .ref (A 179)), (2, .ref q1), (3, .ref q2), (4, .ref q3), (1, .int (Int32.ofInt xv)), (5, .int (Int32.ofInt qq)), (6, .int (Int32.ofInt wa)), (7, .int (Int32.ofInt tu)), (9, .int (Int32.ofInt p))]) rfl (by decide) (fun _ h => h) (z_inc X (x := p) (lv' := [(9, .int (Int32.ofInt (p + 1))), (8, .int (Int32.ofInt p)), (10, .int (Int32.ofInt e2012)), (0, .ref (A 179)), (2, .ref q1), (3, .ref q2), (4, .ref q3), (1, .int (Int32.ofInt xv)), (5, .int (Int32.ofInt qq)), (6, .int (Int32.ofInt wa)), (7, .int (Int32.ofInt tu))]) rfl (by decide) (List.Mem.tail _ (List.Mem.tail _ (List.Mem.tail _ (List.Mem.tail _ (List.Mem.tail _ (List.Mem.tail _ (List.Mem.tail _ (List.Mem.tail _ (List.Mem.tail _ (List.Mem.tail _ (List.Mem.head _))))))))))) (fun _ h => h) (z_goto X (t := 100) rfl rfl (WS_pq [3, 4, 5, 6, 7, 8, 9, 10, 1, 0] (lv' := [(0, .ref (A 179)), (2, .ref q1), (3, .ref q2), (4, .ref q3), (1, .int (Int32.ofInt xv)), (5, .int (Int32.ofInt qq)), (6, .int (Int32.ofInt wa)), (7, .int (Int32.ofInt tu)), (8, .int (Int32.ofInt p)), (9, .int (Int32.ofInt (p + 1)))]) rfl ?_))))
                         exact ih _ xv qq wa tu p (p + 1) I F jjEX (by first | exact ⟨And.intro (hi.1.1) (hi.1.2), And.intro (hi.2.1.1) (hi.2.1.2), And.intro (hi.2.2.1.1) (hi.2.2.1.2), And.intro (hi.2.2.2.1.1) (hi.2.2.2.1.2), And.intro (oq_ca54ea22 hi.2.2.2.2.2.1) (oq_e297cd40 g2001 hi.1.2), oq_54f49eb5 hi.2.2.2.2.2.1, oq_f6204d84 g2001 hi.1.2⟩ | omega) (by first | exact qk_me hm (by decide) (oq_ccc5e5e0 g2001 hi.1.2) | exact oq_1de3c892 g2001 hm hi.1.2 | omega) kx
                refine z_icmp_ge X (t := 192) rfl rfl hy2009 ⟨by first | exact oq_0911b3f0 hi.2.1.1 b2010.2 | omega, by first | exact oq_98567cb8 b2010.1 hi.2.1.2 | omega⟩ (fun g2018 => ?_) (fun g2018 => ?_)
                ·
                  exact z_const X rfl (N2011 _ (Or.inl ⟨g2018, rfl⟩))
                ·
                  exact z_const X rfl (z_goto X (t := 193) rfl rfl (N2011 _ (Or.inr (⟨g2018, rfl⟩))))
              ·
                as_aux_lemma =>
                 refine z_aload X (x := q3) rfl (List.Mem.tail _ (List.Mem.tail _ (List.Mem.tail _ (List.Mem.head _)))) (z_load X (x := p) rfl (List.Mem.tail _ (List.Mem.tail _ (List.Mem.tail _ (List.Mem.tail _ (List.Mem.tail _ (List.Mem.tail _ (List.Mem.tail _ (List.Mem.tail _ (List.Mem.tail _ (List.Mem.head _)))))))))) (z_xald X jjEX 2 rfl rfl (by first | exact hi.2.2.2.2.2.1 | omega) (show p < 8 by first | exact oq_7f5b2e79 g2001 hi.1.2 | omega) (by decide) (fun y2019 hy2019 => ?_)))
                 refine z_load X (x := qq) rfl (List.Mem.tail _ (List.Mem.tail _ (List.Mem.tail _ (List.Mem.tail _ (List.Mem.tail _ (List.Mem.head _)))))) (z_const X rfl (z_sub X rfl (z_icmp_ne X (t := 169) rfl rfl hy2019 ⟨by first | exact oq_c1e961c7 hi.2.1.1 | omega, by first | exact oq_7b087cf4 hi.2.1.2 | omega⟩ (fun g2020 => ?_) (fun g2020 => ?_))))
                 ·
                   refine z_const X rfl (z_goto X (t := 193) rfl rfl (z_store X (lv' := [(10, .int (Int32.ofInt 0)), (0, .ref (A 179)), (2, .ref q1), (3, .ref q2), (4, .ref q3), (1, .int (Int32.ofInt xv)), (5, .int (Int32.ofInt qq)), (6, .int (Int32.ofInt wa)), (7, .int (Int32.ofInt tu)), (8, .int (Int32.ofInt be)), (9, .int (Int32.ofInt p))]) rfl (by decide) (fun _ h => h) (z_load X (x := 0) rfl (List.Mem.head _) (z_if_eq X (t := 221) rfl rfl (by decide) (fun g2021 => ?_) (fun g2021 => ?_)))))
                   ·
                     refine z_inc X (x := p) (lv' := [(9, .int (Int32.ofInt (p + 1))), (10, .int (Int32.ofInt 0)), (0, .ref (A 179)), (2, .ref q1), (3, .ref q2), (4, .ref q3), (1, .int (Int32.ofInt xv)), (5, .int (Int32.ofInt qq)), (6, .int (Int32.ofInt wa)), (7, .int (Int32.ofInt tu)), (8, .int (Int32.ofInt be))]) rfl (by decide) (List.Mem.tail _ (List.Mem.tail _ (List.Mem.tail _ (List.Mem.tail _ (List.Mem.tail _ (List.Mem.tail _ (List.Mem.tail _ (List.Mem.tail _ (List.Mem.tail _ (List.Mem.tail _ (List.Mem.head _))))))))))) (fun _ h => h) (z_goto X (t := 100) rfl rfl (WS_pq [2, 3, 4, 5, 6, 7, 8, 9, 10, 0] (lv' := [(0, .ref (A 179)), (2, .ref q1), (3, .ref q2), (4, .ref q3), (1, .int (Int32.ofInt xv)), (5, .int (Int32.ofInt qq)), (6, .int (Int32.ofInt wa)), (7, .int (Int32.ofInt tu)), (8, .int (Int32.ofInt be)), (9, .int (Int32.ofInt (p + 1)))]) rfl ?_))
                     exact ih _ xv qq wa tu be (p + 1) I F jjEX (by first | exact ⟨And.intro (hi.1.1) (hi.1.2), And.intro (hi.2.1.1) (hi.2.1.2), And.intro (hi.2.2.1.1) (hi.2.2.1.2), And.intro (hi.2.2.2.1.1) (hi.2.2.2.1.2), And.intro (hi.2.2.2.2.1.1) (hi.2.2.2.2.1.2), oq_54f49eb5 hi.2.2.2.2.2.1, oq_f6204d84 g2001 hi.1.2⟩ | omega) (by first | exact qk_me hm (by decide) (oq_ccc5e5e0 g2001 hi.1.2) | exact oq_1de3c892 g2001 hm hi.1.2 | omega) kx
                   ·
                     refine z_load X (x := be) rfl (List.Mem.tail _ (List.Mem.tail _ (List.Mem.tail _ (List.Mem.tail _ (List.Mem.tail _ (List.Mem.tail _ (List.Mem.tail _ (List.Mem.tail _ (List.Mem.tail _ (List.Mem.head _)))))))))) (z_const X rfl (z_icmp_eq X (t := 217) rfl rfl ⟨by first | exact oq_97ee2c2a hi.2.2.2.2.1.1 | omega, by first | exact oq_0e78ca7d hi.2.2.2.2.1.2 | omega⟩ (by decide) (fun g2022 => ?_) (fun g2022 => ?_)))
                     ·
                       refine z_load X (x := p) rfl (List.Mem.tail _ (List.Mem.tail _ (List.Mem.tail _ (List.Mem.tail _ (List.Mem.tail _ (List.Mem.tail _ (List.Mem.tail _ (List.Mem.tail _ (List.Mem.tail _ (List.Mem.tail _ (List.Mem.head _))))))))))) (z_store X (lv' := [(8, .int (Int32.ofInt p)), (10, .int (Int32.ofInt 0)), (0, .ref (A 179)), (2, .ref q1), (3, .ref q2), (4, .ref q3), (1, .int (Int32.ofInt xv)), (5, .int (Int32.ofInt qq)), (6, .int (Int32.ofInt wa)), (7, .int (Int32.ofInt tu)), (9, .int (Int32.ofInt p))]) rfl (by decide) (fun _ h => h) (z_inc X (x := p) (lv' := [(9, .int (Int32.ofInt (p + 1))), (8, .int (Int32.ofInt p)), (10, .int (Int32.ofInt 0)), (0, .ref (A 179)), (2, .ref q1), (3, .ref q2), (4, .ref q3), (1, .int (Int32.ofInt xv)), (5, .int (Int32.ofInt qq)), (6, .int (Int32.ofInt wa)), (7, .int (Int32.ofInt tu))]) rfl (by decide) (List.Mem.tail _ (List.Mem.tail _ (List.Mem.tail _ (List.Mem.tail _ (List.Mem.tail _ (List.Mem.tail _ (List.Mem.tail _ (List.Mem.tail _ (List.Mem.tail _ (List.Mem.tail _ (List.Mem.head _))))))))))) (fun _ h => h) (z_goto X (t := 100) rfl rfl (WS_pq [3, 4, 5, 6, 7, 8, 9, 10, 1, 0] (lv' := [(0, .ref (A 179)), (2, .ref q1), (3, .ref q2), (4, .ref q3), (1, .int (Int32.ofInt xv)), (5, .int (Int32.ofInt qq)), (6, .int (Int32.ofInt wa)), (7, .int (Int32.ofInt tu)), (8, .int (Int32.ofInt p)), (9, .int (Int32.ofInt (p + 1)))]) rfl ?_))))
                       exact ih _ xv qq wa tu p (p + 1) I F jjEX (by first | exact ⟨And.intro (hi.1.1) (hi.1.2), And.intro (hi.2.1.1) (hi.2.1.2), And.intro (hi.2.2.1.1) (hi.2.2.1.2), And.intro (hi.2.2.2.1.1) (hi.2.2.2.1.2), And.intro (oq_ca54ea22 hi.2.2.2.2.2.1) (oq_e297cd40 g2001 hi.1.2), oq_54f49eb5 hi.2.2.2.2.2.1, oq_f6204d84 g2001 hi.1.2⟩ | omega) (by first | exact qk_me hm (by decide) (oq_ccc5e5e0 g2001 hi.1.2) | exact oq_1de3c892 g2001 hm hi.1.2 | omega) kx
                     ·
                       as_aux_lemma =>
                        refine z_aload_n X (x := q1) rfl (List.Mem.tail _ (List.Mem.tail _ (List.Mem.head _))) (z_load X (x := p) rfl (List.Mem.tail _ (List.Mem.tail _ (List.Mem.tail _ (List.Mem.tail _ (List.Mem.tail _ (List.Mem.tail _ (List.Mem.tail _ (List.Mem.tail _ (List.Mem.tail _ (List.Mem.tail _ (List.Mem.head _))))))))))) (z_xald X jjEX 0 rfl rfl (by first | exact hi.2.2.2.2.2.1 | omega) (show p < 8 by first | exact oq_7f5b2e79 g2001 hi.1.2 | omega) (by decide) (fun y2023 hy2023 => ?_)))
                        refine z_aload_n X (x := q1) rfl (List.Mem.tail _ (List.Mem.tail _ (List.Mem.head _))) (z_load X (x := be) rfl (List.Mem.tail _ (List.Mem.tail _ (List.Mem.tail _ (List.Mem.tail _ (List.Mem.tail _ (List.Mem.tail _ (List.Mem.tail _ (List.Mem.tail _ (List.Mem.tail _ (List.Mem.head _)))))))))) (z_xald X jjEX 0 rfl rfl (by first | exact oq_7a1025bf g2022 hi.2.2.2.2.1.1 | omega) (show be < 8 by first | exact oq_aaea290e hi.2.2.2.2.1.2 | omega) (by decide) (fun y2024 hy2024 => ?_)))
                        refine z_icmp_ge X (t := 221) rfl rfl hy2023 hy2024 (fun g2025 => ?_) (fun g2025 => ?_)
                        ·
                          refine z_inc X (x := p) (lv' := [(9, .int (Int32.ofInt (p + 1))), (10, .int (Int32.ofInt 0)), (0, .ref (A 179)), (2, .ref q1), (3, .ref q2), (4, .ref q3), (1, .int (Int32.ofInt xv)), (5, .int (Int32.ofInt qq)), (6, .int (Int32.ofInt wa)), (7, .int (Int32.ofInt tu)), (8, .int (Int32.ofInt be))]) rfl (by decide) (List.Mem.tail _ (List.Mem.tail _ (List.Mem.tail _ (List.Mem.tail _ (List.Mem.tail _ (List.Mem.tail _ (List.Mem.tail _ (List.Mem.tail _ (List.Mem.tail _ (List.Mem.tail _ (List.Mem.head _))))))))))) (fun _ h => h) (z_goto X (t := 100) rfl rfl (WS_pq [2, 3, 4, 5, 6, 7, 8, 9, 10, 0] (lv' := [(0, .ref (A 179)), (2, .ref q1), (3, .ref q2), (4, .ref q3), (1, .int (Int32.ofInt xv)), (5, .int (Int32.ofInt qq)), (6, .int (Int32.ofInt wa)), (7, .int (Int32.ofInt tu)), (8, .int (Int32.ofInt be)), (9, .int (Int32.ofInt (p + 1)))]) rfl ?_))
                          exact ih _ xv qq wa tu be (p + 1) I F jjEX (by first | exact ⟨And.intro (hi.1.1) (hi.1.2), And.intro (hi.2.1.1) (hi.2.1.2), And.intro (hi.2.2.1.1) (hi.2.2.1.2), And.intro (hi.2.2.2.1.1) (hi.2.2.2.1.2), And.intro (hi.2.2.2.2.1.1) (hi.2.2.2.2.1.2), oq_54f49eb5 hi.2.2.2.2.2.1, oq_f6204d84 g2001 hi.1.2⟩ | omega) (by first | exact qk_me hm (by decide) (oq_ccc5e5e0 g2001 hi.1.2) | exact oq_1de3c892 g2001 hm hi.1.2 | omega) kx
                        ·
                          refine z_load X (x := p) rfl (List.Mem.tail _ (List.Mem.tail _ (List.Mem.tail _ (List.Mem.tail _ (List.Mem.tail _ (List.Mem.tail _ (List.Mem.tail _ (List.Mem.tail _ (List.Mem.tail _ (List.Mem.tail _ (List.Mem.head _))))))))))) (z_store X (lv' := [(8, .int (Int32.ofInt p)), (10, .int (Int32.ofInt 0)), (0, .ref (A 179)), (2, .ref q1), (3, .ref q2), (4, .ref q3), (1, .int (Int32.ofInt xv)), (5, .int (Int32.ofInt qq)), (6, .int (Int32.ofInt wa)), (7, .int (Int32.ofInt tu)), (9, .int (Int32.ofInt p))]) rfl (by decide) (fun _ h => h) (z_inc X (x := p) (lv' := [(9, .int (Int32.ofInt (p + 1))), (8, .int (Int32.ofInt p)), (10, .int (Int32.ofInt 0)), (0, .ref (A 179)), (2, .ref q1), (3, .ref q2), (4, .ref q3), (1, .int (Int32.ofInt xv)), (5, .int (Int32.ofInt qq)), (6, .int (Int32.ofInt wa)), (7, .int (Int32.ofInt tu))]) rfl (by decide) (List.Mem.tail _ (List.Mem.tail _ (List.Mem.tail _ (List.Mem.tail _ (List.Mem.tail _ (List.Mem.tail _ (List.Mem.tail _ (List.Mem.tail _ (List.Mem.tail _ (List.Mem.tail _ (List.Mem.head _))))))))))) (fun _ h => h) (z_goto X (t := 100) rfl rfl (WS_pq [3, 4, 5, 6, 7, 8, 9, 10, 1, 0] (lv' := [(0, .ref (A 179)), (2, .ref q1), (3, .ref q2), (4, .ref q3), (1, .int (Int32.ofInt xv)), (5, .int (Int32.ofInt qq)), (6, .int (Int32.ofInt wa)), (7, .int (Int32.ofInt tu)), (8, .int (Int32.ofInt p)), (9, .int (Int32.ofInt (p + 1)))]) rfl ?_))))
                          exact ih _ xv qq wa tu p (p + 1) I F jjEX (by first | exact ⟨And.intro (hi.1.1) (hi.1.2), And.intro (hi.2.1.1) (hi.2.1.2), And.intro (hi.2.2.1.1) (hi.2.2.1.2), And.intro (hi.2.2.2.1.1) (hi.2.2.2.1.2), And.intro (oq_ca54ea22 hi.2.2.2.2.2.1) (oq_e297cd40 g2001 hi.1.2), oq_54f49eb5 hi.2.2.2.2.2.1, oq_f6204d84 g2001 hi.1.2⟩ | omega) (by first | exact qk_me hm (by decide) (oq_ccc5e5e0 g2001 hi.1.2) | exact oq_1de3c892 g2001 hm hi.1.2 | omega) kx
                 ·
                   as_aux_lemma =>
                    refine z_aload_n X (x := q2) rfl (List.Mem.tail _ (List.Mem.tail _ (List.Mem.head _))) (z_load X (x := p) rfl (List.Mem.tail _ (List.Mem.tail _ (List.Mem.tail _ (List.Mem.tail _ (List.Mem.tail _ (List.Mem.tail _ (List.Mem.tail _ (List.Mem.tail _ (List.Mem.tail _ (List.Mem.head _)))))))))) (z_xald X jjEX 1 rfl rfl (by first | exact hi.2.2.2.2.2.1 | omega) (show p < 8 by first | exact oq_7f5b2e79 g2001 hi.1.2 | omega) (by decide) (fun y2026 hy2026 => ?_)))
                    refine z_aload_n X (x := A 179) rfl (List.Mem.head _) (z_getI X 179 rfl (c518_ok rfl) rfl rfl ?_)
                    have b2027 := bi_102 I
                    have N2028 : ∀ e2029 : Int, ((((iI t 102) ≤ y2026) ∧ e2029 = 0) ∨ ((y2026 < (iI t 102)) ∧ e2029 = 1)) → WS k 193 [(0, .ref (A 179)), (2, .ref q1), (3, .ref q2), (4, .ref q3), (1, .int (Int32.ofInt xv)), (5, .int (Int32.ofInt qq)), (6, .int (Int32.ofInt wa)), (7, .int (Int32.ofInt tu)), (8, .int (Int32.ofInt be)), (9, .int (Int32.ofInt p))] [.int (Int32.ofInt e2029)] (Wd A dT t) 3 24 := by
                      intro e2029 he2029
                      have re2029 : 0 ≤ e2029 ∧ e2029 ≤ 1 := by first | exact And.intro (oq_7bcf922d he2029) (oq_4d987fa3 he2029) | (clear he2029 g2005; omega) | (clear g2005; omega) | omega
                      refine z_store X (lv' := [(10, .int (Int32.ofInt e2029)), (0, .ref (A 179)), (2, .ref q1), (3, .ref q2), (4, .ref q3), (1, .int (Int32.ofInt xv)), (5, .int (Int32.ofInt qq)), (6, .int (Int32.ofInt wa)), (7, .int (Int32.ofInt tu)), (8, .int (Int32.ofInt be)), (9, .int (Int32.ofInt p))]) rfl (by decide) (fun _ h => h) (z_load X (x := e2029) rfl (List.Mem.head _) (z_if_eq X (t := 221) rfl rfl ⟨by first | exact oq_fa4e5087 re2029.1 | omega, by first | exact oq_22e1e6b0 re2029.2 | omega⟩ (fun g2030 => ?_) (fun g2030 => ?_)))
                      ·
                        refine z_inc X (x := p) (lv' := [(9, .int (Int32.ofInt (p + 1))), (10, .int (Int32.ofInt e2029)), (0, .ref (A 179)), (2, .ref q1), (3, .ref q2), (4, .ref q3), (1, .int (Int32.ofInt xv)), (5, .int (Int32.ofInt qq)), (6, .int (Int32.ofInt wa)), (7, .int (Int32.ofInt tu)), (8, .int (Int32.ofInt be))]) rfl (by decide) (List.Mem.tail _ (List.Mem.tail _ (List.Mem.tail _ (List.Mem.tail _ (List.Mem.tail _ (List.Mem.tail _ (List.Mem.tail _ (List.Mem.tail _ (List.Mem.tail _ (List.Mem.tail _ (List.Mem.head _))))))))))) (fun _ h => h) (z_goto X (t := 100) rfl rfl (WS_pq [2, 3, 4, 5, 6, 7, 8, 9, 10, 0] (lv' := [(0, .ref (A 179)), (2, .ref q1), (3, .ref q2), (4, .ref q3), (1, .int (Int32.ofInt xv)), (5, .int (Int32.ofInt qq)), (6, .int (Int32.ofInt wa)), (7, .int (Int32.ofInt tu)), (8, .int (Int32.ofInt be)), (9, .int (Int32.ofInt (p + 1)))]) rfl ?_))
                        exact ih _ xv qq wa tu be (p + 1) I F jjEX (by first | exact ⟨And.intro (hi.1.1) (hi.1.2), And.intro (hi.2.1.1) (hi.2.1.2), And.intro (hi.2.2.1.1) (hi.2.2.1.2), And.intro (hi.2.2.2.1.1) (hi.2.2.2.1.2), And.intro (hi.2.2.2.2.1.1) (hi.2.2.2.2.1.2), oq_54f49eb5 hi.2.2.2.2.2.1, oq_f6204d84 g2001 hi.1.2⟩ | omega) (by first | exact qk_me hm (by decide) (oq_ccc5e5e0 g2001 hi.1.2) | exact oq_1de3c892 g2001 hm hi.1.2 | omega) kx
                      ·
                        as_aux_lemma =>
                         refine z_load X (x := be) rfl (List.Mem.tail _ (List.Mem.tail _ (List.Mem.tail _ (List.Mem.tail _ (List.Mem.tail _ (List.Mem.tail _ (List.Mem.tail _ (List.Mem.tail _ (List.Mem.tail _ (List.Mem.head _)))))))))) (z_const X rfl (z_icmp_eq X (t := 217) rfl rfl ⟨by first | exact oq_97ee2c2a hi.2.2.2.2.1.1 | omega, by first | exact oq_0e78ca7d hi.2.2.2.2.1.2 | omega⟩ (by decide) (fun g2031 => ?_) (fun g2031 => ?_)))
                         ·
                           refine z_load X (x := p) rfl (List.Mem.tail _ (List.Mem.tail _ (List.Mem.tail _ (List.Mem.tail _ (List.Mem.tail _ (List.Mem.tail _ (List.Mem.tail _ (List.Mem.tail _ (List.Mem.tail _ (List.Mem.tail _ (List.Mem.head _))))))))))) (z_store X (lv' := [(8, .int (Int32.ofInt p)), (10, .int (Int32.ofInt e2029)), (0, .ref (A 179)), (2, .ref q1), (3, .ref q2), (4, .ref q3), (1, .int (Int32.ofInt xv)), (5, .int (Int32.ofInt qq)), (6, .int (Int32.ofInt wa)), (7, .int (Int32.ofInt tu)), (9, .int (Int32.ofInt p))]) rfl (by decide) (fun _ h => h) (z_inc X (x := p) (lv' := [(9, .int (Int32.ofInt (p + 1))), (8, .int (Int32.ofInt p)), (10, .int (Int32.ofInt e2029)), (0, .ref (A 179)), (2, .ref q1), (3, .ref q2), (4, .ref q3), (1, .int (Int32.ofInt xv)), (5, .int (Int32.ofInt qq)), (6, .int (Int32.ofInt wa)), (7, .int (Int32.ofInt tu))]) rfl (by decide) (List.Mem.tail _ (List.Mem.tail _ (List.Mem.tail _ (List.Mem.tail _ (List.Mem.tail _ (List.Mem.tail _ (List.Mem.tail _ (List.Mem.tail _ (List.Mem.tail _ (List.Mem.tail _ (List.Mem.head _))))))))))) (fun _ h => h) (z_goto X (t := 100) rfl rfl (WS_pq [3, 4, 5, 6, 7, 8, 9, 10, 1, 0] (lv' := [(0, .ref (A 179)), (2, .ref q1), (3, .ref q2), (4, .ref q3), (1, .int (Int32.ofInt xv)), (5, .int (Int32.ofInt qq)), (6, .int (Int32.ofInt wa)), (7, .int (Int32.ofInt tu)), (8, .int (Int32.ofInt p)), (9, .int (Int32.ofInt (p + 1)))]) rfl ?_))))
                           exact ih _ xv qq wa tu p (p + 1) I F jjEX (by first | exact ⟨And.intro (hi.1.1) (hi.1.2), And.intro (hi.2.1.1) (hi.2.1.2), And.intro (hi.2.2.1.1) (hi.2.2.1.2), And.intro (hi.2.2.2.1.1) (hi.2.2.2.1.2), And.intro (oq_ca54ea22 hi.2.2.2.2.2.1) (oq_e297cd40 g2001 hi.1.2), oq_54f49eb5 hi.2.2.2.2.2.1, oq_f6204d84 g2001 hi.1.2⟩ | omega) (by first | exact qk_me hm (by decide) (oq_ccc5e5e0 g2001 hi.1.2) | exact oq_1de3c892 g2001 hm hi.1.2 | omega) kx
                         ·
                           refine z_aload_n X (x := q1) rfl (List.Mem.tail _ (List.Mem.tail _ (List.Mem.head _))) (z_load X (x := p) rfl (List.Mem.tail _ (List.Mem.tail _ (List.Mem.tail _ (List.Mem.tail _ (List.Mem.tail _ (List.Mem.tail _ (List.Mem.tail _ (List.Mem.tail _ (List.Mem.tail _ (List.Mem.tail _ (List.Mem.head _))))))))))) (z_xald X jjEX 0 rfl rfl (by first | exact hi.2.2.2.2.2.1 | omega) (show p < 8 by first | exact oq_7f5b2e79 g2001 hi.1.2 | omega) (by decide) (fun y2032 hy2032 => ?_)))
                           refine z_aload_n X (x := q1) rfl (List.Mem.tail _ (List.Mem.tail _ (List.Mem.head _))) (z_load X (x := be) rfl (List.Mem.tail _ (List.Mem.tail _ (List.Mem.tail _ (List.Mem.tail _ (List.Mem.tail _ (List.Mem.tail _ (List.Mem.tail _ (List.Mem.tail _ (List.Mem.tail _ (List.Mem.head _)))))))))) (z_xald X jjEX 0 rfl rfl (by first | exact oq_7a1025bf g2031 hi.2.2.2.2.1.1 | omega) (show be < 8 by first | exact oq_aaea290e hi.2.2.2.2.1.2 | omega) (by decide) (fun y2033 hy2033 => ?_)))
                           refine z_icmp_ge X (t := 221) rfl rfl hy2032 hy2033 (fun g2034 => ?_) (fun g2034 => ?_)
                           ·
                             refine z_inc X (x := p) (lv' := [(9, .int (Int32.ofInt (p + 1))), (10, .int (Int32.ofInt e2029)), (0, .ref (A 179)), (2, .ref q1), (3, .ref q2), (4, .ref q3), (1, .int (Int32.ofInt xv)), (5, .int (Int32.ofInt qq)), (6, .int (Int32.ofInt wa)), (7, .int (Int32.ofInt tu)), (8, .int (Int32.ofInt be))]) rfl (by decide) (List.Mem.tail _ (List.Mem.tail _ (List.Mem.tail _ (List.Mem.tail _ (List.Mem.tail _ (List.Mem.tail _ (List.Mem.tail _ (List.Mem.tail _ (List.Mem.tail _ (List.Mem.tail _ (List.Mem.head _))))))))))) (fun _ h => h) (z_goto X (t := 100) rfl rfl (WS_pq [2, 3, 4, 5, 6, 7, 8, 9, 10, 0] (lv' := [(0, .ref (A 179)), (2, .ref q1), (3, .ref q2), (4, .ref q3), (1, .int (Int32.ofInt xv)), (5, .int (Int32.ofInt qq)), (6, .int (Int32.ofInt wa)), (7, .int (Int32.ofInt tu)), (8, .int (Int32.ofInt be)), (9, .int (Int32.ofInt (p + 1)))]) rfl ?_))
                             exact ih _ xv qq wa tu be (p + 1) I F jjEX (by first | exact ⟨And.intro (hi.1.1) (hi.1.2), And.intro (hi.2.1.1) (hi.2.1.2), And.intro (hi.2.2.1.1) (hi.2.2.1.2), And.intro (hi.2.2.2.1.1) (hi.2.2.2.1.2), And.intro (hi.2.2.2.2.1.1) (hi.2.2.2.2.1.2), oq_54f49eb5 hi.2.2.2.2.2.1, oq_f6204d84 g2001 hi.1.2⟩ | omega) (by first | exact qk_me hm (by decide) (oq_ccc5e5e0 g2001 hi.1.2) | exact oq_1de3c892 g2001 hm hi.1.2 | omega) kx
                           ·
                             refine z_load X (x := p) rfl (List.Mem.tail _ (List.Mem.tail _ (List.Mem.tail _ (List.Mem.tail _ (List.Mem.tail _ (List.Mem.tail _ (List.Mem.tail _ (List.Mem.tail _ (List.Mem.tail _ (List.Mem.tail _ (List.Mem.head _))))))))))) (z_store X (lv' := [(8, .int (Int32.ofInt p)), (10, .int (Int32.ofInt e2029)), (0, .ref (A 179)), (2, .ref q1), (3, .ref q2), (4, .ref q3), (1, .int (Int32.ofInt xv)), (5, .int (Int32.ofInt qq)), (6, .int (Int32.ofInt wa)), (7, .int (Int32.ofInt tu)), (9, .int (Int32.ofInt p))]) rfl (by decide) (fun _ h => h) (z_inc X (x := p) (lv' := [(9, .int (Int32.ofInt (p + 1))), (8, .int (Int32.ofInt p)), (10, .int (Int32.ofInt e2029)), (0, .ref (A 179)), (2, .ref q1), (3, .ref q2), (4, .ref q3), (1, .int (Int32.ofInt xv)), (5, .int (Int32.ofInt qq)), (6, .int (Int32.ofInt wa)), (7, .int (Int32.ofInt tu))]) rfl (by decide) (List.Mem.tail _ (List.Mem.tail _ (List.Mem.tail _ (List.Mem.tail _ (List.Mem.tail _ (List.Mem.tail _ (List.Mem.tail _ (List.Mem.tail _ (List.Mem.tail _ (List.Mem.tail _ (List.Mem.head _))))))))))) (fun _ h => h) (z_goto X (t := 100) rfl rfl (WS_pq [3, 4, 5, 6, 7, 8, 9, 10, 1, 0] (lv' := [(0, .ref (A 179)), (2, .ref q1), (3, .ref q2), (4, .ref q3), (1, .int (Int32.ofInt xv)), (5, .int (Int32.ofInt qq)), (6, .int (Int32.ofInt wa)), (7, .int (Int32.ofInt tu)), (8, .int (Int32.ofInt p)), (9, .int (Int32.ofInt (p + 1)))]) rfl ?_))))
                             exact ih _ xv qq wa tu p (p + 1) I F jjEX (by first | exact ⟨And.intro (hi.1.1) (hi.1.2), And.intro (hi.2.1.1) (hi.2.1.2), And.intro (hi.2.2.1.1) (hi.2.2.1.2), And.intro (hi.2.2.2.1.1) (hi.2.2.2.1.2), And.intro (oq_ca54ea22 hi.2.2.2.2.2.1) (oq_e297cd40 g2001 hi.1.2), oq_54f49eb5 hi.2.2.2.2.2.1, oq_f6204d84 g2001 hi.1.2⟩ | omega) (by first | exact qk_me hm (by decide) (oq_ccc5e5e0 g2001 hi.1.2) | exact oq_1de3c892 g2001 hm hi.1.2 | omega) kx
                    refine z_icmp_ge X (t := 169) rfl rfl hy2026 (rng_to _) (fun g2035 => ?_) (fun g2035 => ?_)
                    ·
                      exact z_const X rfl (z_goto X (t := 193) rfl rfl (N2028 _ (Or.inl ⟨g2035, rfl⟩)))
                    ·
                      exact z_const X rfl (z_goto X (t := 193) rfl rfl (N2028 _ (Or.inr (⟨g2035, rfl⟩))))
            ·
              refine z_goto X (t := 221) rfl rfl (z_inc X (x := p) (lv' := [(9, .int (Int32.ofInt (p + 1))), (0, .ref (A 179)), (2, .ref q1), (3, .ref q2), (4, .ref q3), (1, .int (Int32.ofInt xv)), (5, .int (Int32.ofInt qq)), (6, .int (Int32.ofInt wa)), (7, .int (Int32.ofInt tu)), (8, .int (Int32.ofInt be))]) rfl (by decide) (List.Mem.tail _ (List.Mem.tail _ (List.Mem.tail _ (List.Mem.tail _ (List.Mem.tail _ (List.Mem.tail _ (List.Mem.tail _ (List.Mem.tail _ (List.Mem.tail _ (List.Mem.head _)))))))))) (fun _ h => h) (z_goto X (t := 100) rfl rfl (WS_pq [1, 2, 3, 4, 5, 6, 7, 8, 9, 0] (lv' := [(0, .ref (A 179)), (2, .ref q1), (3, .ref q2), (4, .ref q3), (1, .int (Int32.ofInt xv)), (5, .int (Int32.ofInt qq)), (6, .int (Int32.ofInt wa)), (7, .int (Int32.ofInt tu)), (8, .int (Int32.ofInt be)), (9, .int (Int32.ofInt (p + 1)))]) rfl ?_)))
              exact ih _ xv qq wa tu be (p + 1) I F jjEX (by first | exact ⟨And.intro (hi.1.1) (hi.1.2), And.intro (hi.2.1.1) (hi.2.1.2), And.intro (hi.2.2.1.1) (hi.2.2.1.2), And.intro (hi.2.2.2.1.1) (hi.2.2.2.1.2), And.intro (hi.2.2.2.2.1.1) (hi.2.2.2.2.1.2), oq_54f49eb5 hi.2.2.2.2.2.1, oq_f6204d84 g2001 hi.1.2⟩ | omega) (by first | exact qk_me hm (by decide) (oq_ccc5e5e0 g2001 hi.1.2) | exact oq_1de3c892 g2001 hm hi.1.2 | omega) kx
  have L83 : ∀ (n : Nat) (t : PS) (xv qq wa tu be : Int), Bd t → FmX [104] [397] s t → EXl (pX s) (dT 0) [(q1, 8), (q2, 8), (q3, 8)] t → ((1 ≤ xv ∧ xv ≤ 8) ∧ (0 ≤ qq ∧ qq ≤ 23) ∧ rng wa ∧ (0 ≤ tu ∧ tu ≤ 1) ∧ (-1 ≤ be ∧ be ≤ 7)) → (100 * wa + be + 1 : Int).toNat < n → (∀ (t' : PS) (wa' be' : Int), Bd t' → FmX [104] [397] s t' → EXl (pX s) (dT 0) [(q1, 8), (q2, 8), (q3, 8)] t' → ((1 ≤ xv ∧ xv ≤ 8) ∧ (0 ≤ qq ∧ qq ≤ 23) ∧ rng wa' ∧ (0 ≤ tu ∧ tu ≤ 1) ∧ (-1 ≤ be' ∧ be' ≤ 7)) → WS k 256 [(0, .ref (A 179)), (2, .ref q1), (3, .ref q2), (4, .ref q3), (1, .int (Int32.ofInt xv)), (5, .int (Int32.ofInt qq)), (6, .int (Int32.ofInt wa')), (7, .int (Int32.ofInt tu)), (8, .int (Int32.ofInt be'))] [] (Wd A dT t') 3 24) → WS k 83 [(0, .ref (A 179)), (2, .ref q1), (3, .ref q2), (4, .ref q3), (1, .int (Int32.ofInt xv)), (5, .int (Int32.ofInt qq)), (6, .int (Int32.ofInt wa)), (7, .int (Int32.ofInt tu)), (8, .int (Int32.ofInt be))] [] (Wd A dT t) 3 24 := by
    as_aux_lemma =>
     intro n
     induction n with
     | zero =>
       intro t xv qq wa tu be I F jjEX hi hm kx
       exact absurd hm (Nat.not_lt_zero _)
     | succ n ih =>
       intro t xv qq wa tu be I F jjEX hi hm kx
       refine z_load X (x := wa) rfl (List.Mem.tail _ (List.Mem.tail _ (List.Mem.tail _ (List.Mem.tail _ (List.Mem.tail _ (List.Mem.tail _ (List.Mem.head _))))))) (z_if_le X (t := 256) rfl rfl ⟨by first | exact hi.2.2.1.1 | omega, by first | exact hi.2.2.1.2 | omega⟩ (fun g3001 => ?_) (fun g3001 => ?_))
       ·
         refine WS_pq [0, 1, 2, 3, 4, 5, 6, 7, 8] (lv' := [(0, .ref (A 179)), (2, .ref q1), (3, .ref q2), (4, .ref q3), (1, .int (Int32.ofInt xv)), (5, .int (Int32.ofInt qq)), (6, .int (Int32.ofInt wa)), (7, .int (Int32.ofInt tu)), (8, .int (Int32.ofInt be))]) rfl ?_
         exact kx _ wa be I F jjEX (by first | exact ⟨And.intro (hi.1.1) (hi.1.2), And.intro (hi.2.1.1) (hi.2.1.2), And.intro (hi.2.2.1.1) (hi.2.2.1.2), And.intro (hi.2.2.2.1.1) (hi.2.2.2.1.2), hi.2.2.2.2.1, hi.2.2.2.2.2⟩ | omega)
       ·
         refine z_load X (x := be) rfl (List.Mem.tail _ (List.Mem.tail _ (List.Mem.tail _ (List.Mem.tail _ (List.Mem.tail _ (List.Mem.tail _ (List.Mem.tail _ (List.Mem.tail _ (List.Mem.head _))))))))) (z_const X rfl (z_icmp_eq X (t := 256) rfl rfl ⟨by first | exact oq_97ee2c2a hi.2.2.2.2.1 | omega, by first | exact oq_0e78ca7d hi.2.2.2.2.2 | omega⟩ (by decide) (fun g3002 => ?_) (fun g3002 => ?_)))
         ·
           refine WS_pq [0, 1, 2, 3, 4, 5, 6, 7, 8] (lv' := [(0, .ref (A 179)), (2, .ref q1), (3, .ref q2), (4, .ref q3), (1, .int (Int32.ofInt xv)), (5, .int (Int32.ofInt qq)), (6, .int (Int32.ofInt wa)), (7, .int (Int32.ofInt tu)), (8, .int (Int32.ofInt be))]) rfl ?_
           exact kx _ wa be I F jjEX (by first | exact ⟨And.intro (hi.1.1) (hi.1.2), And.intro (hi.2.1.1) (hi.2.1.2), And.intro (hi.2.2.1.1) (hi.2.2.1.2), And.intro (hi.2.2.2.1.1) (hi.2.2.2.1.2), hi.2.2.2.2.1, hi.2.2.2.2.2⟩ | omega)
         ·
           refine z_const X rfl (z_store X (lv' := [(8, .int (Int32.ofInt (-1))), (0, .ref (A 179)), (2, .ref q1), (3, .ref q2), (4, .ref q3), (1, .int (Int32.ofInt xv)), (5, .int (Int32.ofInt qq)), (6, .int (Int32.ofInt wa)), (7, .int (Int32.ofInt tu))]) rfl (by decide) (fun _ h => h) (z_const X rfl (z_store X (lv' := [(9, .int (Int32.ofInt 0)), (8, .int (Int32.ofInt (-1))), (0, .ref (A 179)), (2, .ref q1), (3, .ref q2), (4, .ref q3), (1, .int (Int32.ofInt xv)), (5, .int (Int32.ofInt qq)), (6, .int (Int32.ofInt wa)), (7, .int (Int32.ofInt tu))]) rfl (by decide) (fun _ h => h) (WS_pq [2, 3, 4, 5, 6, 7, 8, 9, 1, 0] (lv' := [(0, .ref (A 179)), (2, .ref q1), (3, .ref q2), (4, .ref q3), (1, .int (Int32.ofInt xv)), (5, .int (Int32.ofInt qq)), (6, .int (Int32.ofInt wa)), (7, .int (Int32.ofInt tu)), (8, .int (Int32.ofInt (-1))), (9, .int (Int32.ofInt 0))]) rfl (L100 ((8 - 0 : Int).toNat + 1) t xv qq wa tu (-1) 0 I F jjEX (by first | exact ⟨And.intro (hi.1.1) (hi.1.2), And.intro (hi.2.1.1) (hi.2.1.2), And.intro (hi.2.2.1.1) (hi.2.2.1.2), And.intro (hi.2.2.2.1.1) (hi.2.2.2.1.2), And.intro (by decide) (by decide), by decide, by decide⟩ | omega) (Nat.lt_succ_self _) ?_)))))
           intro s3003 x3004 x3005 Is3003 Fs3003 JEX_s3003 hs3003
           refine z_load X (x := x3004) rfl (List.Mem.tail _ (List.Mem.tail _ (List.Mem.tail _ (List.Mem.tail _ (List.Mem.tail _ (List.Mem.tail _ (List.Mem.tail _ (List.Mem.tail _ (List.Mem.head _))))))))) (z_const X rfl (z_icmp_ne X (t := 236) rfl rfl ⟨by first | exact oq_97ee2c2a hs3003.2.2.2.2.1.1 | omega, by first | exact oq_0e78ca7d hs3003.2.2.2.2.1.2 | omega⟩ (by decide) (fun g3006 => ?_) (fun g3006 => ?_)))
           ·
             as_aux_lemma =>
              refine z_aload_n X (x := A 179) rfl (List.Mem.head _) (s_getR X 179 rfl (c518_ok rfl) rfl rfl (z_load X (x := qq) rfl (List.Mem.tail _ (List.Mem.tail _ (List.Mem.tail _ (List.Mem.tail _ (List.Mem.tail _ (List.Mem.head _)))))) (w_dup2_11 X.1 (ax_d X (show cdA 275 242 = some (.dup2, 1, 0, 0, 0) from rfl)) rfl rfl (z_ald X 452 rfl (c518_ok rfl) rfl (by first | exact hs3003.2.1.1 | omega) (show qq < 24 by first | exact oq_7fdb8aa6 hs3003.2.1.2 | omega) (cbig_ok rfl) ?_))))
              have b3007 := bc_397 Is3003 (show (qq).toNat < 24 by first | exact oq_138251d6 hs3003.2.1.2 | omega)
              refine z_const X rfl (z_load X (x := x3004) rfl (List.Mem.tail _ (List.Mem.tail _ (List.Mem.tail _ (List.Mem.tail _ (List.Mem.tail _ (List.Mem.tail _ (List.Mem.tail _ (List.Mem.tail _ (List.Mem.head _))))))))) (z_shl1 X rfl (by first | exact ⟨oq_7a1025bf g3006 hs3003.2.2.2.2.1.1, oq_c26bbb12 hs3003.2.2.2.2.1.2⟩ | omega) (fun y3008 hy3008 iy3008 jy3008 ky3008 => ?_)))
              refine z_orb X rfl 8 (by decide) (show 0 ≤ (iC s3003 397 (qq).toNat) ∧ (iC s3003 397 (qq).toNat) < 2 ^ 8 by first | (clear g3006 g3002; omega) | (clear g3002; omega) | omega) (show 0 ≤ y3008 ∧ y3008 < 2 ^ 8 by first | (clear g3006 g3002; omega) | (clear g3002; omega) | omega) (fun y3009 hy3009 iy3009 => ?_)
              have ib3010 : y3009 < 256 := iy3009
              refine z_ast X 452 rfl (c518_ok rfl) rfl (by first | exact hs3003.2.1.1 | omega) (show qq < 24 by first | exact oq_7fdb8aa6 hs3003.2.1.2 | omega) (cbig_ok rfl) (wd_gen (fun s3011 hs3011 => ?_))
              have Is3011 : Bd s3011 := eqB hs3011 (bd_C Is3003 (show (0 : Int) ≤ y3009 ∧ y3009 ≤ 255 by first | exact ⟨hy3009, oq_b4026d49 ib3010⟩ | omega) ⟨by first | exact oq_fa4e5087 hy3009 | omega, by first | exact oq_17ce71fa ib3010 | omega⟩)
              have Fs3011 := fx_C (i := (qq).toNat) (x := Int32.ofInt y3009) Fs3003 (show 397 ∈ _ by decide)
              rw [← hs3011] at Fs3011
              have JEX_s3011 : EXl (pX s) (dT 0) [(q1, 8), (q2, 8), (q3, 8)] s3011 := by rw [hs3011]; exact JEX_s3003
              refine z_inc X (x := wa) (lv' := [(6, .int (Int32.ofInt (wa + (-1)))), (0, .ref (A 179)), (2, .ref q1), (3, .ref q2), (4, .ref q3), (1, .int (Int32.ofInt xv)), (5, .int (Int32.ofInt qq)), (7, .int (Int32.ofInt tu)), (8, .int (Int32.ofInt x3004)), (9, .int (Int32.ofInt x3005))]) rfl (by decide) (List.Mem.tail _ (List.Mem.tail _ (List.Mem.tail _ (List.Mem.tail _ (List.Mem.tail _ (List.Mem.tail _ (List.Mem.head _))))))) (fun _ h => h) (z_goto X (t := 83) rfl rfl (WS_pq [1, 2, 3, 4, 5, 6, 0, 7, 8] (lv' := [(0, .ref (A 179)), (2, .ref q1), (3, .ref q2), (4, .ref q3), (1, .int (Int32.ofInt xv)), (5, .int (Int32.ofInt qq)), (6, .int (Int32.ofInt (wa + (-1)))), (7, .int (Int32.ofInt tu)), (8, .int (Int32.ofInt x3004))]) rfl ?_))
              exact ih _ xv qq (wa + (-1)) tu x3004 Is3011 Fs3011 JEX_s3011 (by first | exact ⟨And.intro (hs3003.1.1) (hs3003.1.2), And.intro (hs3003.2.1.1) (hs3003.2.1.2), And.intro (oq_96abdc25 g3001) (oq_ca207916 hs3003.2.2.1.2), And.intro (hs3003.2.2.2.1.1) (hs3003.2.2.2.1.2), hs3003.2.2.2.2.1.1, hs3003.2.2.2.2.1.2⟩ | omega) (by first | exact qk_me hm (oq_8cccae95 hi.2.2.2.2.1 hs3003.2.2.2.2.1.2) (oq_e2d048ad hi.2.2.2.2.1 g3001) | omega) kx
           ·
             refine z_goto X (t := 83) rfl rfl (WS_pq [0, 1, 2, 3, 4, 5, 6, 7, 8] (lv' := [(0, .ref (A 179)), (2, .ref q1), (3, .ref q2), (4, .ref q3), (1, .int (Int32.ofInt xv)), (5, .int (Int32.ofInt qq)), (6, .int (Int32.ofInt wa)), (7, .int (Int32.ofInt tu)), (8, .int (Int32.ofInt x3004))]) rfl ?_)
             exact ih _ xv qq wa tu x3004 Is3003 Fs3003 JEX_s3003 (by first | exact ⟨And.intro (hs3003.1.1) (hs3003.1.2), And.intro (hs3003.2.1.1) (hs3003.2.1.2), And.intro (hs3003.2.2.1.1) (hs3003.2.2.1.2), And.intro (hs3003.2.2.2.1.1) (hs3003.2.2.2.1.2), hs3003.2.2.2.2.1.1, hs3003.2.2.2.2.1.2⟩ | omega) (by first | exact qk_me hm (oq_012028ef g3006 g3002 hi.2.2.2.2.1) (oq_e2d048ad hi.2.2.2.2.1 g3001) | omega) kx
  have L74 : ∀ (n : Nat) (t : PS) (xv qq wa tu : Int), Bd t → FmX [104] [397] s t → EXl (pX s) (dT 0) [(q1, 8), (q2, 8), (q3, 8)] t → ((1 ≤ xv ∧ xv ≤ 8) ∧ (0 ≤ qq ∧ qq ≤ 23) ∧ rng wa ∧ (0 ≤ tu ∧ tu ≤ 2)) → (2 - tu : Int).toNat < n → (∀ (t' : PS) (wa' tu' : Int), Bd t' → FmX [104] [397] s t' → EXl (pX s) (dT 0) [(q1, 8), (q2, 8), (q3, 8)] t' → ((1 ≤ xv ∧ xv ≤ 8) ∧ (0 ≤ qq ∧ qq ≤ 23) ∧ rng wa' ∧ (0 ≤ tu' ∧ tu' ≤ 2)) → WS k 262 [(0, .ref (A 179)), (2, .ref q1), (3, .ref q2), (4, .ref q3), (1, .int (Int32.ofInt xv)), (5, .int (Int32.ofInt qq)), (6, .int (Int32.ofInt wa')), (7, .int (Int32.ofInt tu'))] [] (Wd A dT t') 3 24) → WS k 74 [(0, .ref (A 179)), (2, .ref q1), (3, .ref q2), (4, .ref q3), (1, .int (Int32.ofInt xv)), (5, .int (Int32.ofInt qq)), (6, .int (Int32.ofInt wa)), (7, .int (Int32.ofInt tu))] [] (Wd A dT t) 3 24 := by
    intro n
    induction n with
    | zero =>
      intro t xv qq wa tu I F jjEX hi hm kx
      exact absurd hm (Nat.not_lt_zero _)
    | succ n ih =>
      intro t xv qq wa tu I F jjEX hi hm kx
      refine z_load X (x := tu) rfl (List.Mem.tail _ (List.Mem.tail _ (List.Mem.tail _ (List.Mem.tail _ (List.Mem.tail _ (List.Mem.tail _ (List.Mem.tail _ (List.Mem.head _)))))))) (z_const X rfl (z_icmp_ge X (t := 262) rfl rfl ⟨by first | exact oq_fa4e5087 hi.2.2.2.1 | omega, by first | exact oq_861e1648 hi.2.2.2.2 | omega⟩ (by decide) (fun g4001 => ?_) (fun g4001 => ?_)))
      ·
        refine WS_pq [0, 1, 2, 3, 4, 5, 6, 7] (lv' := [(0, .ref (A 179)), (2, .ref q1), (3, .ref q2), (4, .ref q3), (1, .int (Int32.ofInt xv)), (5, .int (Int32.ofInt qq)), (6, .int (Int32.ofInt wa)), (7, .int (Int32.ofInt tu))]) rfl ?_
        exact kx _ wa tu I F jjEX (by first | exact ⟨And.intro (hi.1.1) (hi.1.2), And.intro (hi.2.1.1) (hi.2.1.2), And.intro (hi.2.2.1.1) (hi.2.2.1.2), hi.2.2.2.1, hi.2.2.2.2⟩ | omega)
      ·
        refine z_const X rfl (z_store X (lv' := [(8, .int (Int32.ofInt 0)), (0, .ref (A 179)), (2, .ref q1), (3, .ref q2), (4, .ref q3), (1, .int (Int32.ofInt xv)), (5, .int (Int32.ofInt qq)), (6, .int (Int32.ofInt wa)), (7, .int (Int32.ofInt tu))]) rfl (by decide) (fun _ h => h) (WS_pq [1, 2, 3, 4, 5, 6, 7, 8, 0] (lv' := [(0, .ref (A 179)), (2, .ref q1), (3, .ref q2), (4, .ref q3), (1, .int (Int32.ofInt xv)), (5, .int (Int32.ofInt qq)), (6, .int (Int32.ofInt wa)), (7, .int (Int32.ofInt tu)), (8, .int (Int32.ofInt 0))]) rfl (L83 ((100 * wa + 0 + 1 : Int).toNat + 1) t xv qq wa tu 0 I F jjEX (by first | exact ⟨And.intro (hi.1.1) (hi.1.2), And.intro (hi.2.1.1) (hi.2.1.2), And.intro (hi.2.2.1.1) (hi.2.2.1.2), And.intro (hi.2.2.2.1) (oq_b11e0c68 g4001), by decide, by decide⟩ | omega) (Nat.lt_succ_self _) ?_)))
        intro s4002 x4003 x4004 Is4002 Fs4002 JEX_s4002 hs4002
        refine z_inc X (x := tu) (lv' := [(7, .int (Int32.ofInt (tu + 1))), (0, .ref (A 179)), (2, .ref q1), (3, .ref q2), (4, .ref q3), (1, .int (Int32.ofInt xv)), (5, .int (Int32.ofInt qq)), (6, .int (Int32.ofInt x4003)), (8, .int (Int32.ofInt x4004))]) rfl (by decide) (List.Mem.tail _ (List.Mem.tail _ (List.Mem.tail _ (List.Mem.tail _ (List.Mem.tail _ (List.Mem.tail _ (List.Mem.tail _ (List.Mem.head _)))))))) (fun _ h => h) (z_goto X (t := 74) rfl rfl (WS_pq [1, 2, 3, 4, 5, 6, 7, 0] (lv' := [(0, .ref (A 179)), (2, .ref q1), (3, .ref q2), (4, .ref q3), (1, .int (Int32.ofInt xv)), (5, .int (Int32.ofInt qq)), (6, .int (Int32.ofInt x4003)), (7, .int (Int32.ofInt (tu + 1)))]) rfl ?_))
        exact ih _ xv qq x4003 (tu + 1) Is4002 Fs4002 JEX_s4002 (by first | exact ⟨And.intro (hs4002.1.1) (hs4002.1.2), And.intro (hs4002.2.1.1) (hs4002.2.1.2), And.intro (hs4002.2.2.1.1) (hs4002.2.2.1.2), oq_54f49eb5 hs4002.2.2.2.1.1, oq_f4e79888 hs4002.2.2.2.1.2⟩ | omega) (by first | exact qk_me hm (by decide) (oq_8f78399e hs4002.2.2.2.1.2) | exact oq_e143c315 hs4002.2.2.2.1.2 hm | omega) kx
  have L276 : ∀ (n : Nat) (t : PS) (xv qq p : Int), Bd t → FmX [104] [397] s t → EXl (pX s) (dT 0) [(q1, 8), (q2, 8), (q3, 8)] t → ((1 ≤ xv ∧ xv ≤ 8) ∧ (0 ≤ qq ∧ qq ≤ 23) ∧ 0 ≤ p ∧ p ≤ 8) → (8 - p : Int).toNat < n → (∀ (t' : PS) (p' : Int), Bd t' → FmX [104] [397] s t' → EXl (pX s) (dT 0) [(q1, 8), (q2, 8), (q3, 8)] t' → ((1 ≤ xv ∧ xv ≤ 8) ∧ (0 ≤ qq ∧ qq ≤ 23) ∧ 0 ≤ p' ∧ p' ≤ 8) → WS k 347 [(0, .ref (A 179)), (2, .ref q1), (3, .ref q2), (4, .ref q3), (1, .int (Int32.ofInt xv)), (5, .int (Int32.ofInt qq)), (7, .int (Int32.ofInt p'))] [] (Wd A dT t') 3 24) → WS k 276 [(0, .ref (A 179)), (2, .ref q1), (3, .ref q2), (4, .ref q3), (1, .int (Int32.ofInt xv)), (5, .int (Int32.ofInt qq)), (7, .int (Int32.ofInt p))] [] (Wd A dT t) 3 24 := by
    as_aux_lemma =>
     intro n
     induction n with
     | zero =>
       intro t xv qq p I F jjEX hi hm kx
       exact absurd hm (Nat.not_lt_zero _)
     | succ n ih =>
       intro t xv qq p I F jjEX hi hm kx
       refine z_load X (x := p) rfl (List.Mem.tail _ (List.Mem.tail _ (List.Mem.tail _ (List.Mem.tail _ (List.Mem.tail _ (List.Mem.tail _ (List.Mem.head _))))))) (z_load_n X (x := xv) rfl (List.Mem.tail _ (List.Mem.tail _ (List.Mem.tail _ (List.Mem.tail _ (List.Mem.head _))))) (z_icmp_ge X (t := 347) rfl rfl ⟨by first | exact oq_fa4e5087 hi.2.2.1 | omega, by first | exact oq_d3f5d874 hi.2.2.2 | omega⟩ ⟨by first | exact oq_9462313e hi.1.1 | omega, by first | exact oq_d3f5d874 hi.1.2 | omega⟩ (fun g5001 => ?_) (fun g5001 => ?_)))
       ·
         refine WS_pq [0, 1, 2, 3, 4, 5, 6] (lv' := [(0, .ref (A 179)), (2, .ref q1), (3, .ref q2), (4, .ref q3), (1, .int (Int32.ofInt xv)), (5, .int (Int32.ofInt qq)), (7, .int (Int32.ofInt p))]) rfl ?_
         exact kx _ p I F jjEX (by first | exact ⟨And.intro (hi.1.1) (hi.1.2), And.intro (hi.2.1.1) (hi.2.1.2), hi.2.2.1, hi.2.2.2⟩ | omega)
       ·
         refine z_aload_n X (x := A 179) rfl (List.Mem.head _) (s_getR X 179 rfl (c518_ok rfl) rfl rfl (z_load X (x := qq) rfl (List.Mem.tail _ (List.Mem.tail _ (List.Mem.tail _ (List.Mem.tail _ (List.Mem.tail _ (List.Mem.head _)))))) (z_ald X 452 rfl (c518_ok rfl) rfl (by first | exact hi.2.1.1 | omega) (show qq < 24 by first | exact oq_7fdb8aa6 hi.2.1.2 | omega) (cbig_ok rfl) ?_)))
         have b5002 := bc_397 I (show (qq).toNat < 24 by first | exact oq_138251d6 hi.2.1.2 | omega)
         refine z_load X (x := p) rfl (List.Mem.tail _ (List.Mem.tail _ (List.Mem.tail _ (List.Mem.tail _ (List.Mem.tail _ (List.Mem.tail _ (List.Mem.head _))))))) (z_bshr X rfl (z_any (fun y5003 hy5003 => ?_)))
         refine z_const X rfl (z_andm X rfl (by decide) (by decide) (fun y5004 hy5004 gy5004 => ?_))
         refine z_if_ne X (t := 300) rfl rfl ⟨by first | exact oq_fa4e5087 hy5004 | omega, by first | exact oq_22e1e6b0 gy5004 | omega⟩ (fun g5005 => ?_) (fun g5005 => ?_)
         ·
           refine z_aload_n X (x := q2) rfl (List.Mem.tail _ (List.Mem.tail _ (List.Mem.head _))) (z_load X (x := p) rfl (List.Mem.tail _ (List.Mem.tail _ (List.Mem.tail _ (List.Mem.tail _ (List.Mem.tail _ (List.Mem.tail _ (List.Mem.head _))))))) (z_aload X (x := q3) rfl (List.Mem.tail _ (List.Mem.tail _ (List.Mem.tail _ (List.Mem.head _)))) (z_load X (x := p) rfl (List.Mem.tail _ (List.Mem.tail _ (List.Mem.tail _ (List.Mem.tail _ (List.Mem.tail _ (List.Mem.tail _ (List.Mem.head _))))))) (z_xald X jjEX 2 rfl rfl (by first | exact hi.2.2.1 | omega) (show p < 8 by first | exact oq_7f5b2e79 g5001 hi.1.2 | omega) (by decide) (fun y5006 hy5006 => ?_)))))
           refine z_load X (x := qq) rfl (List.Mem.tail _ (List.Mem.tail _ (List.Mem.tail _ (List.Mem.tail _ (List.Mem.tail _ (List.Mem.head _)))))) (z_const X rfl (z_sub X rfl (z_icmp_ne X (t := 324) rfl rfl hy5006 ⟨by first | exact oq_c1e961c7 hi.2.1.1 | omega, by first | exact oq_7b087cf4 hi.2.1.2 | omega⟩ (fun g5007 => ?_) (fun g5007 => ?_))))
           ·
             refine z_const X rfl (z_xast X jjEX 1 rfl rfl (by first | exact hi.2.2.1 | omega) (show p < 8 by first | exact oq_7f5b2e79 g5001 hi.1.2 | omega) (by decide) (fun ps5008 es5008 => ?_))
             have Is5008 : Bd (sx t ps5008) := I
             have Fs5008 : FmX [104] [397] s (sx t ps5008) := F
             generalize sx t ps5008 = s5008 at *
             refine z_aload X (x := q3) rfl (List.Mem.tail _ (List.Mem.tail _ (List.Mem.tail _ (List.Mem.head _)))) (z_load X (x := p) rfl (List.Mem.tail _ (List.Mem.tail _ (List.Mem.tail _ (List.Mem.tail _ (List.Mem.tail _ (List.Mem.tail _ (List.Mem.head _))))))) (z_load X (x := qq) rfl (List.Mem.tail _ (List.Mem.tail _ (List.Mem.tail _ (List.Mem.tail _ (List.Mem.tail _ (List.Mem.head _)))))) (z_xast X es5008 2 rfl rfl (by first | exact hi.2.2.1 | omega) (show p < 8 by first | exact oq_7f5b2e79 g5001 hi.1.2 | omega) (by decide) (fun ps5009 es5009 => ?_))))
             have Is5009 : Bd (sx s5008 ps5009) := Is5008
             have Fs5009 : FmX [104] [397] s (sx s5008 ps5009) := Fs5008
             generalize sx s5008 ps5009 = s5009 at *
             refine z_aload_n X (x := q1) rfl (List.Mem.tail _ (List.Mem.head _)) (z_load X (x := p) rfl (List.Mem.tail _ (List.Mem.tail _ (List.Mem.tail _ (List.Mem.tail _ (List.Mem.tail _ (List.Mem.tail _ (List.Mem.head _))))))) (w_dup2_11 X.1 (ax_d X (show cdA 275 336 = some (.dup2, 1, 0, 0, 0) from rfl)) rfl rfl (z_xald X es5009 0 rfl rfl (by first | exact hi.2.2.1 | omega) (show p < 8 by first | exact oq_7f5b2e79 g5001 hi.1.2 | omega) (by decide) (fun y5010 hy5010 => ?_))))
             refine z_const X rfl (z_add X rfl (z_any (fun y5011 hy5011 => ?_)))
             refine z_xast X es5009 0 rfl rfl (by first | exact hi.2.2.1 | omega) (show p < 8 by first | exact oq_7f5b2e79 g5001 hi.1.2 | omega) (by decide) (fun ps5012 es5012 => ?_)
             have Is5012 : Bd (sx s5009 ps5012) := Is5009
             have Fs5012 : FmX [104] [397] s (sx s5009 ps5012) := Fs5009
             generalize sx s5009 ps5012 = s5012 at *
             refine z_inc X (x := p) (lv' := [(7, .int (Int32.ofInt (p + 1))), (0, .ref (A 179)), (2, .ref q1), (3, .ref q2), (4, .ref q3), (1, .int (Int32.ofInt xv)), (5, .int (Int32.ofInt qq))]) rfl (by decide) (List.Mem.tail _ (List.Mem.tail _ (List.Mem.tail _ (List.Mem.tail _ (List.Mem.tail _ (List.Mem.tail _ (List.Mem.head _))))))) (fun _ h => h) (z_goto X (t := 276) rfl rfl (WS_pq [1, 2, 3, 4, 5, 6, 0] (lv' := [(0, .ref (A 179)), (2, .ref q1), (3, .ref q2), (4, .ref q3), (1, .int (Int32.ofInt xv)), (5, .int (Int32.ofInt qq)), (7, .int (Int32.ofInt (p + 1)))]) rfl ?_))
             exact ih _ xv qq (p + 1) Is5012 Fs5012 es5012 (by first | exact ⟨And.intro (hi.1.1) (hi.1.2), And.intro (hi.2.1.1) (hi.2.1.2), oq_54f49eb5 hi.2.2.1, oq_f6204d84 g5001 hi.1.2⟩ | omega) (by first | exact qk_me hm (by decide) (oq_ccc5e5e0 g5001 hi.1.2) | exact oq_1de3c892 g5001 hm hi.1.2 | omega) kx
           ·
             as_aux_lemma =>
              refine z_aload_n X (x := q2) rfl (List.Mem.tail _ (List.Mem.tail _ (List.Mem.head _))) (z_load X (x := p) rfl (List.Mem.tail _ (List.Mem.tail _ (List.Mem.tail _ (List.Mem.tail _ (List.Mem.tail _ (List.Mem.tail _ (List.Mem.head _))))))) (z_xald X jjEX 1 rfl rfl (by first | exact hi.2.2.1 | omega) (show p < 8 by first | exact oq_7f5b2e79 g5001 hi.1.2 | omega) (by decide) (fun y5013 hy5013 => ?_)))
              refine z_const X rfl (z_add X rfl (z_any (fun y5014 hy5014 => ?_)))
              refine z_goto X (t := 325) rfl rfl (z_xast X jjEX 1 rfl rfl (by first | exact hi.2.2.1 | omega) (show p < 8 by first | exact oq_7f5b2e79 g5001 hi.1.2 | omega) (by decide) (fun ps5015 es5015 => ?_))
              have Is5015 : Bd (sx t ps5015) := I
              have Fs5015 : FmX [104] [397] s (sx t ps5015) := F
              generalize sx t ps5015 = s5015 at *
              refine z_aload X (x := q3) rfl (List.Mem.tail _ (List.Mem.tail _ (List.Mem.tail _ (List.Mem.head _)))) (z_load X (x := p) rfl (List.Mem.tail _ (List.Mem.tail _ (List.Mem.tail _ (List.Mem.tail _ (List.Mem.tail _ (List.Mem.tail _ (List.Mem.head _))))))) (z_load X (x := qq) rfl (List.Mem.tail _ (List.Mem.tail _ (List.Mem.tail _ (List.Mem.tail _ (List.Mem.tail _ (List.Mem.head _)))))) (z_xast X es5015 2 rfl rfl (by first | exact hi.2.2.1 | omega) (show p < 8 by first | exact oq_7f5b2e79 g5001 hi.1.2 | omega) (by decide) (fun ps5016 es5016 => ?_))))
              have Is5016 : Bd (sx s5015 ps5016) := Is5015
              have Fs5016 : FmX [104] [397] s (sx s5015 ps5016) := Fs5015
              generalize sx s5015 ps5016 = s5016 at *
              refine z_aload_n X (x := q1) rfl (List.Mem.tail _ (List.Mem.head _)) (z_load X (x := p) rfl (List.Mem.tail _ (List.Mem.tail _ (List.Mem.tail _ (List.Mem.tail _ (List.Mem.tail _ (List.Mem.tail _ (List.Mem.head _))))))) (w_dup2_11 X.1 (ax_d X (show cdA 275 336 = some (.dup2, 1, 0, 0, 0) from rfl)) rfl rfl (z_xald X es5016 0 rfl rfl (by first | exact hi.2.2.1 | omega) (show p < 8 by first | exact oq_7f5b2e79 g5001 hi.1.2 | omega) (by decide) (fun y5017 hy5017 => ?_))))
              refine z_const X rfl (z_add X rfl (z_any (fun y5018 hy5018 => ?_)))
              refine z_xast X es5016 0 rfl rfl (by first | exact hi.2.2.1 | omega) (show p < 8 by first | exact oq_7f5b2e79 g5001 hi.1.2 | omega) (by decide) (fun ps5019 es5019 => ?_)
              have Is5019 : Bd (sx s5016 ps5019) := Is5016
              have Fs5019 : FmX [104] [397] s (sx s5016 ps5019) := Fs5016
              generalize sx s5016 ps5019 = s5019 at *
              refine z_inc X (x := p) (lv' := [(7, .int (Int32.ofInt (p + 1))), (0, .ref (A 179)), (2, .ref q1), (3, .ref q2), (4, .ref q3), (1, .int (Int32.ofInt xv)), (5, .int (Int32.ofInt qq))]) rfl (by decide) (List.Mem.tail _ (List.Mem.tail _ (List.Mem.tail _ (List.Mem.tail _ (List.Mem.tail _ (List.Mem.tail _ (List.Mem.head _))))))) (fun _ h => h) (z_goto X (t := 276) rfl rfl (WS_pq [1, 2, 3, 4, 5, 6, 0] (lv' := [(0, .ref (A 179)), (2, .ref q1), (3, .ref q2), (4, .ref q3), (1, .int (Int32.ofInt xv)), (5, .int (Int32.ofInt qq)), (7, .int (Int32.ofInt (p + 1)))]) rfl ?_))
              exact ih _ xv qq (p + 1) Is5019 Fs5019 es5019 (by first | exact ⟨And.intro (hi.1.1) (hi.1.2), And.intro (hi.2.1.1) (hi.2.1.2), oq_54f49eb5 hi.2.2.1, oq_f6204d84 g5001 hi.1.2⟩ | omega) (by first | exact qk_me hm (by decide) (oq_ccc5e5e0 g5001 hi.1.2) | exact oq_1de3c892 g5001 hm hi.1.2 | omega) kx
         ·
           refine z_goto X (t := 341) rfl rfl (z_inc X (x := p) (lv' := [(7, .int (Int32.ofInt (p + 1))), (0, .ref (A 179)), (2, .ref q1), (3, .ref q2), (4, .ref q3), (1, .int (Int32.ofInt xv)), (5, .int (Int32.ofInt qq))]) rfl (by decide) (List.Mem.tail _ (List.Mem.tail _ (List.Mem.tail _ (List.Mem.tail _ (List.Mem.tail _ (List.Mem.tail _ (List.Mem.head _))))))) (fun _ h => h) (z_goto X (t := 276) rfl rfl (WS_pq [1, 2, 3, 4, 5, 6, 0] (lv' := [(0, .ref (A 179)), (2, .ref q1), (3, .ref q2), (4, .ref q3), (1, .int (Int32.ofInt xv)), (5, .int (Int32.ofInt qq)), (7, .int (Int32.ofInt (p + 1)))]) rfl ?_)))
           exact ih _ xv qq (p + 1) I F jjEX (by first | exact ⟨And.intro (hi.1.1) (hi.1.2), And.intro (hi.2.1.1) (hi.2.1.2), oq_54f49eb5 hi.2.2.1, oq_f6204d84 g5001 hi.1.2⟩ | omega) (by first | exact qk_me hm (by decide) (oq_ccc5e5e0 g5001 hi.1.2) | exact oq_1de3c892 g5001 hm hi.1.2 | omega) kx
  have L47 : ∀ (n : Nat) (t : PS) (xv qq : Int), Bd t → FmX [104] [397] s t → EXl (pX s) (dT 0) [(q1, 8), (q2, 8), (q3, 8)] t → ((1 ≤ xv ∧ xv ≤ 8) ∧ 0 ≤ qq ∧ qq ≤ 24) → (24 - qq : Int).toNat < n → (∀ (t' : PS) (qq' : Int), Bd t' → FmX [104] [397] s t' → EXl (pX s) (dT 0) [(q1, 8), (q2, 8), (q3, 8)] t' → ((1 ≤ xv ∧ xv ≤ 8) ∧ 0 ≤ qq' ∧ qq' ≤ 24) → WS k 353 [(0, .ref (A 179)), (2, .ref q1), (3, .ref q2), (4, .ref q3), (1, .int (Int32.ofInt xv)), (5, .int (Int32.ofInt qq'))] [] (Wd A dT t') 3 24) → WS k 47 [(0, .ref (A 179)), (2, .ref q1), (3, .ref q2), (4, .ref q3), (1, .int (Int32.ofInt xv)), (5, .int (Int32.ofInt qq))] [] (Wd A dT t) 3 24 := by
    as_aux_lemma =>
     intro n
     induction n with
     | zero =>
       intro t xv qq I F jjEX hi hm kx
       exact absurd hm (Nat.not_lt_zero _)
     | succ n ih =>
       intro t xv qq I F jjEX hi hm kx
       refine z_load X (x := qq) rfl (List.Mem.tail _ (List.Mem.tail _ (List.Mem.tail _ (List.Mem.tail _ (List.Mem.tail _ (List.Mem.head _)))))) (z_bipush X rfl (z_icmp_ge X (t := 353) rfl rfl ⟨by first | exact oq_fa4e5087 hi.2.1 | omega, by first | exact oq_5bcd337f hi.2.2 | omega⟩ (by decide) (fun g6001 => ?_) (fun g6001 => ?_)))
       ·
         refine WS_pq [0, 1, 2, 3, 4, 5] (lv' := [(0, .ref (A 179)), (2, .ref q1), (3, .ref q2), (4, .ref q3), (1, .int (Int32.ofInt xv)), (5, .int (Int32.ofInt qq))]) rfl ?_
         exact kx _ qq I F jjEX (by first | exact ⟨And.intro (hi.1.1) (hi.1.2), hi.2.1, hi.2.2⟩ | omega)
       ·
         refine z_aload_n X (x := A 179) rfl (List.Mem.head _) (s_getR X 179 rfl (c518_ok rfl) rfl rfl (z_load X (x := qq) rfl (List.Mem.tail _ (List.Mem.tail _ (List.Mem.tail _ (List.Mem.tail _ (List.Mem.tail _ (List.Mem.head _)))))) (z_const X rfl (z_ast X 452 rfl (c518_ok rfl) rfl (by first | exact hi.2.1 | omega) (show qq < 24 by first | exact g6001 | omega) (cbig_ok rfl) (wd_gen (fun s6002 hs6002 => ?_))))))
         have Is6002 : Bd s6002 := eqB hs6002 (bd_C I (show (0 : Int) ≤ 0 ∧ 0 ≤ 255 by first | exact ⟨by decide, by decide⟩ | omega) (by decide))
         have Fs6002 := fx_C (i := (qq).toNat) (x := Int32.ofInt 0) F (show 397 ∈ _ by decide)
         rw [← hs6002] at Fs6002
         have JEX_s6002 : EXl (pX s) (dT 0) [(q1, 8), (q2, 8), (q3, 8)] s6002 := by rw [hs6002]; exact jjEX
         refine z_aload_n X (x := A 179) rfl (List.Mem.head _) (s_getR X 179 rfl (c518_ok rfl) rfl rfl (z_load X (x := qq) rfl (List.Mem.tail _ (List.Mem.tail _ (List.Mem.tail _ (List.Mem.tail _ (List.Mem.tail _ (List.Mem.head _)))))) (z_ald X 451 rfl (c518_ok rfl) rfl (by first | exact hi.2.1 | omega) (show qq < 24 by first | exact g6001 | omega) (cbig_ok rfl) ?_)))
         have b6003 := bc_396 Is6002 (show (qq).toNat < 24 by first | exact oq_797efae6 g6001 | omega)
         refine z_store X (lv' := [(6, .int (Int32.ofInt (iC s6002 396 (qq).toNat))), (0, .ref (A 179)), (2, .ref q1), (3, .ref q2), (4, .ref q3), (1, .int (Int32.ofInt xv)), (5, .int (Int32.ofInt qq))]) rfl (by decide) (fun _ h => h) (z_const X rfl (z_store X (lv' := [(7, .int (Int32.ofInt 0)), (6, .int (Int32.ofInt (iC s6002 396 (qq).toNat))), (0, .ref (A 179)), (2, .ref q1), (3, .ref q2), (4, .ref q3), (1, .int (Int32.ofInt xv)), (5, .int (Int32.ofInt qq))]) rfl (by decide) (fun _ h => h) (WS_pq [2, 3, 4, 5, 6, 7, 1, 0] (lv' := [(0, .ref (A 179)), (2, .ref q1), (3, .ref q2), (4, .ref q3), (1, .int (Int32.ofInt xv)), (5, .int (Int32.ofInt qq)), (6, .int (Int32.ofInt (iC s6002 396 (qq).toNat))), (7, .int (Int32.ofInt 0))]) rfl (L74 ((2 - 0 : Int).toNat + 1) s6002 xv qq (iC s6002 396 (qq).toNat) 0 Is6002 Fs6002 JEX_s6002 (by first | exact ⟨And.intro (hi.1.1) (hi.1.2), And.intro (hi.2.1) (oq_c69fe266 g6001), And.intro (b6003.1) (b6003.2), by decide, by decide⟩ | omega) (Nat.lt_succ_self _) ?_))))
         intro s6004 x6005 x6006 Is6004 Fs6004 JEX_s6004 hs6004
         refine z_aload_n X (x := A 179) rfl (List.Mem.head _) (w_dup X.1 (ax_d X (show cdA 275 263 = some (.dup, 1, 0, 0, 0) from rfl)) rfl (z_getI X 179 rfl (c518_ok rfl) rfl rfl ?_))
         have b6007 := bi_104 Is6004
         refine z_load X (x := x6005) rfl (List.Mem.tail _ (List.Mem.tail _ (List.Mem.tail _ (List.Mem.tail _ (List.Mem.tail _ (List.Mem.tail _ (List.Mem.head _))))))) (z_add X rfl (z_any (fun y6008 hy6008 => ?_)))
         refine s_putI X 179 rfl (c518_ok rfl) rfl rfl (by decide) rfl rfl rfl (wd_gen (fun s6009 hs6009 => ?_))
         have Is6009 : Bd s6009 := eqB hs6009 (bd_I Is6004 (show ((-2147483648) : Int) ≤ y6008 ∧ y6008 ≤ 2147483647 by first | exact ⟨hy6008.1, hy6008.2⟩ | omega) hy6008)
         have Fs6009 := fx_I (x := Int32.ofInt y6008) Fs6004 (show 104 ∈ _ by decide)
         rw [← hs6009] at Fs6009
         have vs6009 : iI s6009 104 = y6008 := eqI hs6009 (iI_u hy6008)
         have JEX_s6009 : EXl (pX s) (dT 0) [(q1, 8), (q2, 8), (q3, 8)] s6009 := by rw [hs6009]; exact JEX_s6004
         refine z_const X rfl (z_store X (lv' := [(7, .int (Int32.ofInt 0)), (0, .ref (A 179)), (2, .ref q1), (3, .ref q2), (4, .ref q3), (1, .int (Int32.ofInt xv)), (5, .int (Int32.ofInt qq)), (6, .int (Int32.ofInt x6005))]) rfl (by decide) (fun _ h => h) (WS_pq [1, 2, 3, 4, 5, 6, 0] (lv' := [(0, .ref (A 179)), (2, .ref q1), (3, .ref q2), (4, .ref q3), (1, .int (Int32.ofInt xv)), (5, .int (Int32.ofInt qq)), (7, .int (Int32.ofInt 0))]) rfl (L276 ((8 - 0 : Int).toNat + 1) s6009 xv qq 0 Is6009 Fs6009 JEX_s6009 (by first | exact ⟨And.intro (hs6004.1.1) (hs6004.1.2), And.intro (hs6004.2.1.1) (hs6004.2.1.2), by decide, by decide⟩ | omega) (Nat.lt_succ_self _) ?_)))
         intro s6010 x6011 Is6010 Fs6010 JEX_s6010 hs6010
         refine z_inc X (x := qq) (lv' := [(5, .int (Int32.ofInt (qq + 1))), (0, .ref (A 179)), (2, .ref q1), (3, .ref q2), (4, .ref q3), (1, .int (Int32.ofInt xv)), (7, .int (Int32.ofInt x6011))]) rfl (by decide) (List.Mem.tail _ (List.Mem.tail _ (List.Mem.tail _ (List.Mem.tail _ (List.Mem.tail _ (List.Mem.head _)))))) (fun _ h => h) (z_goto X (t := 47) rfl rfl (WS_pq [1, 2, 3, 4, 5, 0] (lv' := [(0, .ref (A 179)), (2, .ref q1), (3, .ref q2), (4, .ref q3), (1, .int (Int32.ofInt xv)), (5, .int (Int32.ofInt (qq + 1)))]) rfl ?_))
         exact ih _ xv (qq + 1) Is6010 Fs6010 JEX_s6010 (by first | exact ⟨And.intro (hs6010.1.1) (hs6010.1.2), oq_54f49eb5 hs6010.2.1.1, oq_3d4d89a6 hs6010.2.1.2⟩ | omega) (by first | exact qk_me hm (by decide) (oq_fa9b5cb9 hs6010.2.1.2) | exact oq_2439605e hs6010.2.1.2 hm | omega) kx
  refine z_const X rfl (z_store X (lv' := [(5, .int (Int32.ofInt 0)), (4, .ref q3), (3, .ref q2), (2, .ref q1), (0, .ref (A 179)), (1, .int (Int32.ofInt x))]) rfl (by decide) (fun _ h => h) (WS_pq [4, 3, 2, 1, 5, 0] (lv' := [(0, .ref (A 179)), (2, .ref q1), (3, .ref q2), (4, .ref q3), (1, .int (Int32.ofInt x)), (5, .int (Int32.ofInt 0))]) rfl (L19 ((8 - 0 : Int).toNat + 1) t0 x 0 It0 Ft0 eX0 (by first | exact ⟨And.intro (p0.1) (p0.2), by decide, by decide⟩ | omega) (Nat.lt_succ_self _) ?_)))
  intro s1 x2 Is1 Fs1 JEX_s1 hs1
  refine z_aload_n X (x := A 179) rfl (List.Mem.head _) (z_const X rfl (s_putI X 179 rfl (c518_ok rfl) rfl rfl (by decide) rfl rfl rfl (wd_gen (fun s3 hs3 => ?_))))
  have Is3 : Bd s3 := eqB hs3 (bd_I Is1 (show ((-2147483648) : Int) ≤ 0 ∧ 0 ≤ 2147483647 by first | exact ⟨by decide, by decide⟩ | omega) (by decide))
  have Fs3 := fx_I (x := Int32.ofInt 0) Fs1 (show 104 ∈ _ by decide)
  rw [← hs3] at Fs3
  have vs3 : iI s3 104 = 0 := eqI hs3 (iI_u (by decide))
  have JEX_s3 : EXl (pX s) (dT 0) [(q1, 8), (q2, 8), (q3, 8)] s3 := by rw [hs3]; exact JEX_s1
  refine z_const X rfl (z_store X (lv' := [(5, .int (Int32.ofInt 0)), (0, .ref (A 179)), (2, .ref q1), (3, .ref q2), (4, .ref q3), (1, .int (Int32.ofInt x))]) rfl (by decide) (fun _ h => h) (WS_pq [1, 2, 3, 4, 5, 0] (lv' := [(0, .ref (A 179)), (2, .ref q1), (3, .ref q2), (4, .ref q3), (1, .int (Int32.ofInt x)), (5, .int (Int32.ofInt 0))]) rfl (L47 ((24 - 0 : Int).toNat + 1) s3 x 0 Is3 Fs3 JEX_s3 (by first | exact ⟨And.intro (hs1.1.1) (hs1.1.2), by decide, by decide⟩ | omega) (Nat.lt_succ_self _) ?_)))
  intro s4 x5 Is4 Fs4 JEX_s4 hs4
  refine ws_forget JEX_s4 ?_
  exact w_vret X.1 q hRt (ax_d X (show cdA 275 353 = some (.return_, 1, 0, 0, 0) from rfl)) (by decide) (by decide) ⟨_, rfl, Is4, fx_end Fs4, rfl, trivial⟩
set_option maxRecDepth 4000 in
theorem k_rota (G : GX l s0 D tys a0 dT) (I : Bd s) (jRLx : RLx s) {x y z : Int} (p0 : rng x) (p1 : rng y) (p2 : rng z) (p3 : iI s 89 = 1) : CT l s0 D A dT 276 (rmN 276) [.ref (A 179), .int (Int32.ofInt x), .int (Int32.ofInt y), .int (Int32.ofInt z)] s (fun o t => Bd t ∧ Fm [73, 104, 77, 75, 78, 79, 80, 81, 89] [161, 230, 202, 204, 205, 206, 207, 208, 209, 210, 211, 212, 213, 214, 215, 216, 217, 218, 219, 220, 221, 222, 223, 224, 225, 226, 227, 203, 395, 396, 397, 245, 246, 247, 248, 249, 250, 251, 252, 253, 254, 255, 256, 257, 258, 259, 260, 261, 262, 263, 264, 265, 266, 267, 268, 269, 270, 271, 272, 273, 274, 275, 276, 277, 278, 279, 280, 281, 282, 283, 284, 285, 286, 287, 288, 289, 290, 291, 292, 293, 294, 295, 296, 297, 298, 299, 300, 301, 302, 303, 304, 305, 306, 307, 308, 309, 310, 311, 312, 313, 314, 315, 316, 317, 318, 319, 320, 321, 322, 323, 324, 325, 326, 327, 328, 329, 330, 331, 332, 333, 334, 335, 336, 337, 338, 339, 340, 341, 342, 343, 344, 345, 346, 347, 348, 349, 350, 351, 352, 353, 354, 355, 356, 357, 358, 359, 360, 361, 362, 363, 364, 365, 366, 367, 368, 369, 370, 371, 372, 373, 374, 375, 376, 377, 378, 379, 380, 381, 382, 383, 384, 385, 386, 387, 388, 389, 390, 391, 392, 393, 394] s t ∧ RLx t ∧ ∃ e, o = .inl (some (.int (Int32.ofInt e))) ∧ rng e ∧ (iI t 89 = 1)) := by
  refine ct_of G (by decide) (Nat.le_of_ble_eq_true rfl) (fun k X E hRt hXt q => ?_)
  show WS k 0 [(0, .ref (A 179)), (1, .int (Int32.ofInt x)), (2, .int (Int32.ofInt y)), (3, .int (Int32.ofInt z))] [] _ 0 0
  have F : Fm [73, 104, 77, 75, 78, 79, 80, 81, 89] [161, 230, 202, 204, 205, 206, 207, 208, 209, 210, 211, 212, 213, 214, 215, 216, 217, 218, 219, 220, 221, 222, 223, 224, 225, 226, 227, 203, 395, 396, 397, 245, 246, 247, 248, 249, 250, 251, 252, 253, 254, 255, 256, 257, 258, 259, 260, 261, 262, 263, 264, 265, 266, 267, 268, 269, 270, 271, 272, 273, 274, 275, 276, 277, 278, 279, 280, 281, 282, 283, 284, 285, 286, 287, 288, 289, 290, 291, 292, 293, 294, 295, 296, 297, 298, 299, 300, 301, 302, 303, 304, 305, 306, 307, 308, 309, 310, 311, 312, 313, 314, 315, 316, 317, 318, 319, 320, 321, 322, 323, 324, 325, 326, 327, 328, 329, 330, 331, 332, 333, 334, 335, 336, 337, 338, 339, 340, 341, 342, 343, 344, 345, 346, 347, 348, 349, 350, 351, 352, 353, 354, 355, 356, 357, 358, 359, 360, 361, 362, 363, 364, 365, 366, 367, 368, 369, 370, 371, 372, 373, 374, 375, 376, 377, 378, 379, 380, 381, 382, 383, 384, 385, 386, 387, 388, 389, 390, 391, 392, 393, 394] s s := fm_rf _ _ s
  have b1 := bi_73 I
  have b2 := bi_89 I
  refine z_aload_n X (x := A 179) rfl (List.Mem.head _) (z_const X rfl (s_putI X 179 rfl (c518_ok rfl) rfl rfl (by decide) rfl rfl rfl (wd_gen (fun s3 hs3 => ?_))))
  have Is3 : Bd s3 := eqB hs3 (bd_I I (show (0 : Int) ≤ 0 ∧ 0 ≤ 3 by first | exact ⟨by decide, by decide⟩ | omega) (by decide))
  have Fs3 := eqF hs3 (fm_I F (inl_ok (a := 73) rfl))
  have vs3 : iI s3 73 = 0 := eqI hs3 (iI_u (by decide))
  have ws3_89 : iI s3 89 = iI s 89 := eqI hs3 rfl
  have fs3 : Fm [73] [] s s3 := by rw [hs3]; exact fm_I (fm_rf _ _ _) (show 73 ∈ _ by decide)
  have JRLx_s3 : RLx s3 := RLx_fm fs3 (by decide) jRLx
  refine z_aload_n X (x := A 179) rfl (List.Mem.head _) (z_load_n X (x := x) rfl (List.Mem.tail _ (List.Mem.head _)) (z_const X rfl (z_bipush X rfl (zcS_i0 X E (As := [.int (Int32.ofInt x), .int (Int32.ofInt 1), .int (Int32.ofInt 8)]) (st := [.ref (A 179)]) rfl rfl (k_in G Is3 (by first | exact ⟨p0.1, p0.2⟩ | omega) (by first | exact ⟨by decide, by decide⟩ | omega) (by first | exact ⟨by decide, by decide⟩ | omega)) rfl (Nat.le_of_ble_eq_true rfl) (fun s4 e5 Is4 Fs4 hrs4 hps4 => ?_)))))
  have Gs4 := fm_tq Fs3 Fs4 rfl rfl
  have JRLx_s4 : RLx s4 := RLx_fm Fs4 (by decide) JRLx_s3
  have ws4_73 : iI s4 73 = iI s3 73 := fm_iq Fs4 rfl
  have ws4_89 : iI s4 89 = iI s3 89 := fm_iq Fs4 rfl
  refine z_if_eq X (t := 36) rfl rfl hrs4 (fun g6 => ?_) (fun g6 => ?_)
  ·
    refine z_const X rfl (z_goto X (t := 41) rfl rfl (z_const X rfl (zcV_i0 X E 179 (As := [.int (Int32.ofInt 1), .int (Int32.ofInt 1)]) (st := []) rfl rfl rfl rfl (k_bad G Is4 (by first | exact Or.inr (by decide) | omega) (by first | exact ⟨by decide, by decide⟩ | omega)) rfl (Nat.le_of_ble_eq_true rfl) (fun s7 e8 Is7 Fs7 hrs7 hps7 => ?_))))
    have Gs7 := fm_tq Gs4 Fs7 rfl rfl
    have JRLx_s7 : RLx s7 := RLx_fm Fs7 (by decide) JRLx_s4
    have b9 := bi_73 Is7
    have ws7_89 : iI s7 89 = iI s4 89 := fm_iq Fs7 rfl
    refine z_if_eq X (t := 50) rfl rfl hrs7 (fun g10 => ?_) (fun g10 => ?_)
    ·
      refine z_aload_n X (x := A 179) rfl (List.Mem.head _) (z_load_n X (x := y) rfl (List.Mem.tail _ (List.Mem.tail _ (List.Mem.head _))) (zcV_i1 X E 179 (As := [.int (Int32.ofInt y)]) (st := []) rfl rfl rfl rfl (k_findPlan G Is7 JRLx_s7 (by first | exact ⟨oq_65cab3da g10 hps7.2.1, oq_5b968bc5 g10 hps7.2.1⟩ | exact And.intro (oq_05f36df5 g10 hps7.2.1) (oq_ccd5ba31 g10 hps7.2.1) | omega) (by first | exact oq_29301542 ws7_89 ws4_89 ws3_89 p3 b2.1 | omega)) rfl (Nat.le_of_ble_eq_true rfl) (fun s11 e12 Is11 Fs11 JRLx_s11 hrs11 hps11 => ?_)))
      have hps11p := hps11.2
      have Gs11 := fm_ts Gs7 Fs11 (by decide) (by decide +kernel)
      have JRLx_s11 : RLx s11 := RLx_fm Fs11 (by decide) JRLx_s7
      have ws11_73 : iI s11 73 = iI s7 73 := fm_iq Fs11 rfl
      have b13 := bi_89 Is11
      refine z_if_ne X (t := 60) rfl rfl hrs11 (fun g14 => ?_) (fun g14 => ?_)
      ·
        refine z_aload_n X (x := A 179) rfl (List.Mem.head _) (z_load_n X (x := x) rfl (List.Mem.tail _ (List.Mem.head _)) (z_callV X 179 (rm := rmN 275) (As := [.int (Int32.ofInt x)]) (st := []) rfl rfl (by decide) rfl (by rw [E.1, E.2.1, E.2.2.1]; exact k_findRota G Is11 (by first | exact ⟨oq_c74211cc g10 hps7.2.1, oq_3ff45f06 g10 hps7.2.1⟩ | exact And.intro (oq_ca45149c g10 hps7.2.1) (oq_23b4ceb9 g10 hps7.2.1) | omega)) ⟨by rw [E.2.2.2]; exact (show (rmN 275).frames + 1 ≤ (rmN 276).frames by decide), by rw [E.2.2.2]; exact (show 8 + (mNL (miB 275) + 11) + (rmN 275).locals ≤ (rmN 276).locals by decide), by rw [E.2.2.2]; exact (show 0 + 3 ≤ 3 by decide), by rw [E.2.2.2]; exact (show 0 + 24 ≤ 24 by decide)⟩ (Nat.le_of_ble_eq_true rfl) (fun vv s15 hq => ?_) (fun ee s15 hq => ?_)))
        rotate_left
        · obtain ⟨Is15, Fs15, hv, hps15⟩ := hq; cases hv
        obtain ⟨Is15, Fs15, hv, hps15⟩ := hq
        cases hv
        have Gs15 := fm_tq Gs11 Fs15 rfl rfl
        have JRLx_s15 : RLx s15 := RLx_fm Fs15 (by decide) JRLx_s11
        have ws15_73 : iI s15 73 = iI s11 73 := fm_iq Fs15 rfl
        have ws15_89 : iI s15 89 = iI s11 89 := fm_iq Fs15 rfl
        show WS k 65 [(0, .ref (A 179)), (1, .int (Int32.ofInt x)), (2, .int (Int32.ofInt y)), (3, .int (Int32.ofInt z))] [] (Wd A dT s15) 3 24
        refine z_aload_n X (x := A 179) rfl (List.Mem.head _) (s_getR X 179 rfl (c518_ok rfl) rfl rfl (z_load_n X (x := z) rfl (List.Mem.tail _ (List.Mem.tail _ (List.Mem.tail _ (List.Mem.head _)))) (z_ald X 452 rfl (c518_ok rfl) rfl (by first | exact oq_65cab3da g10 hps7.2.1 | exact oq_05f36df5 g10 hps7.2.1 | omega) (show z < 24 by first | exact oq_af0a1e40 g10 hps7.2.1 | exact oq_416d005c g10 hps7.2.1 | omega) (cbig_ok rfl) ?_)))
        have b17 := bc_397 Is15 (show (z).toNat < 24 by first | exact oq_dac967e2 g10 hps7.2.1 | exact oq_0329481f g10 hps7.2.1 | omega)
        exact w_iret X.1 q hRt rfl (ax_d X (show cdA 276 71 = some (.ireturn, 1, 0, 0, 0) from rfl)) (show 3 ≤ 3 by decide) (show 24 ≤ 24 by decide) ⟨_, rfl, Is15, Gs15, JRLx_s15, (iC s15 397 (z).toNat), rfl, (rng_to _), by first | exact oq_b44a1c7f ws15_89 hps11.2 b13.1 | omega⟩
      ·
        refine z_const X rfl ?_
        exact w_iret X.1 q hRt rfl (ax_d X (show cdA 276 59 = some (.ireturn, 1, 0, 0, 0) from rfl)) (Nat.zero_le _) (Nat.zero_le _) ⟨_, rfl, Is11, Gs11, JRLx_s11, (-1), rfl, (by decide), by first | exact hps11.2 | omega⟩
    ·
      refine z_const X rfl ?_
      exact w_iret X.1 q hRt rfl (ax_d X (show cdA 276 49 = some (.ireturn, 1, 0, 0, 0) from rfl)) (Nat.zero_le _) (Nat.zero_le _) ⟨_, rfl, Is7, Gs7, JRLx_s7, 0, rfl, (by decide), by first | exact oq_29301542 ws7_89 ws4_89 ws3_89 p3 b2.1 | omega⟩
  ·
    refine z_load_n X (x := y) rfl (List.Mem.tail _ (List.Mem.tail _ (List.Mem.head _))) (z_const X rfl (z_bipush X rfl (zcS_i0 X E (As := [.int (Int32.ofInt y), .int (Int32.ofInt 0), .int (Int32.ofInt 23)]) (st := [.ref (A 179)]) rfl rfl (k_in G Is4 (by first | exact ⟨p1.1, p1.2⟩ | omega) (by first | exact ⟨by decide, by decide⟩ | omega) (by first | exact ⟨by decide, by decide⟩ | omega)) rfl (Nat.le_of_ble_eq_true rfl) (fun s18 e19 Is18 Fs18 hrs18 hps18 => ?_))))
    have Gs18 := fm_tq Gs4 Fs18 rfl rfl
    have JRLx_s18 : RLx s18 := RLx_fm Fs18 (by decide) JRLx_s4
    have ws18_73 : iI s18 73 = iI s4 73 := fm_iq Fs18 rfl
    have ws18_89 : iI s18 89 = iI s4 89 := fm_iq Fs18 rfl
    refine z_if_eq X (t := 36) rfl rfl hrs18 (fun g20 => ?_) (fun g20 => ?_)
    ·
      refine z_const X rfl (z_goto X (t := 41) rfl rfl (z_const X rfl (zcV_i0 X E 179 (As := [.int (Int32.ofInt 1), .int (Int32.ofInt 1)]) (st := []) rfl rfl rfl rfl (k_bad G Is18 (by first | exact Or.inr (by decide) | omega) (by first | exact ⟨by decide, by decide⟩ | omega)) rfl (Nat.le_of_ble_eq_true rfl) (fun s21 e22 Is21 Fs21 hrs21 hps21 => ?_))))
      have Gs21 := fm_tq Gs18 Fs21 rfl rfl
      have JRLx_s21 : RLx s21 := RLx_fm Fs21 (by decide) JRLx_s18
      have b23 := bi_73 Is21
      have ws21_89 : iI s21 89 = iI s18 89 := fm_iq Fs21 rfl
      refine z_if_eq X (t := 50) rfl rfl hrs21 (fun g24 => ?_) (fun g24 => ?_)
      ·
        refine z_aload_n X (x := A 179) rfl (List.Mem.head _) (z_load_n X (x := y) rfl (List.Mem.tail _ (List.Mem.tail _ (List.Mem.head _))) (zcV_i1 X E 179 (As := [.int (Int32.ofInt y)]) (st := []) rfl rfl rfl rfl (k_findPlan G Is21 JRLx_s21 (by first | exact ⟨oq_65cab3da g24 hps21.2.1, oq_5b968bc5 g24 hps21.2.1⟩ | exact And.intro (oq_05f36df5 g24 hps21.2.1) (oq_ccd5ba31 g24 hps21.2.1) | omega) (by first | exact oq_094d069b ws21_89 ws18_89 ws4_89 ws3_89 p3 b2.1 | omega)) rfl (Nat.le_of_ble_eq_true rfl) (fun s25 e26 Is25 Fs25 JRLx_s25 hrs25 hps25 => ?_)))
        have hps25p := hps25.2
        have Gs25 := fm_ts Gs21 Fs25 (by decide) (by decide +kernel)
        have JRLx_s25 : RLx s25 := RLx_fm Fs25 (by decide) JRLx_s21
        have ws25_73 : iI s25 73 = iI s21 73 := fm_iq Fs25 rfl
        have b27 := bi_89 Is25
        refine z_if_ne X (t := 60) rfl rfl hrs25 (fun g28 => ?_) (fun g28 => ?_)
        ·
          refine z_aload_n X (x := A 179) rfl (List.Mem.head _) (z_load_n X (x := x) rfl (List.Mem.tail _ (List.Mem.head _)) (z_callV X 179 (rm := rmN 275) (As := [.int (Int32.ofInt x)]) (st := []) rfl rfl (by decide) rfl (by rw [E.1, E.2.1, E.2.2.1]; exact k_findRota G Is25 (by first | exact ⟨oq_fcd95e52 g6 hps4, oq_7e545af9 g6 hps4⟩ | omega)) ⟨by rw [E.2.2.2]; exact (show (rmN 275).frames + 1 ≤ (rmN 276).frames by decide), by rw [E.2.2.2]; exact (show 8 + (mNL (miB 275) + 11) + (rmN 275).locals ≤ (rmN 276).locals by decide), by rw [E.2.2.2]; exact (show 0 + 3 ≤ 3 by decide), by rw [E.2.2.2]; exact (show 0 + 24 ≤ 24 by decide)⟩ (Nat.le_of_ble_eq_true rfl) (fun vv s29 hq => ?_) (fun ee s29 hq => ?_)))
          rotate_left
          · obtain ⟨Is29, Fs29, hv, hps29⟩ := hq; cases hv
          obtain ⟨Is29, Fs29, hv, hps29⟩ := hq
          cases hv
          have Gs29 := fm_tq Gs25 Fs29 rfl rfl
          have JRLx_s29 : RLx s29 := RLx_fm Fs29 (by decide) JRLx_s25
          have ws29_73 : iI s29 73 = iI s25 73 := fm_iq Fs29 rfl
          have ws29_89 : iI s29 89 = iI s25 89 := fm_iq Fs29 rfl
          show WS k 65 [(0, .ref (A 179)), (1, .int (Int32.ofInt x)), (2, .int (Int32.ofInt y)), (3, .int (Int32.ofInt z))] [] (Wd A dT s29) 3 24
          refine z_aload_n X (x := A 179) rfl (List.Mem.head _) (s_getR X 179 rfl (c518_ok rfl) rfl rfl (z_load_n X (x := z) rfl (List.Mem.tail _ (List.Mem.tail _ (List.Mem.tail _ (List.Mem.head _)))) (z_ald X 452 rfl (c518_ok rfl) rfl (by first | exact oq_65cab3da g24 hps21.2.1 | exact oq_05f36df5 g24 hps21.2.1 | omega) (show z < 24 by first | exact oq_af0a1e40 g24 hps21.2.1 | exact oq_416d005c g24 hps21.2.1 | omega) (cbig_ok rfl) ?_)))
          have b31 := bc_397 Is29 (show (z).toNat < 24 by first | exact oq_dac967e2 g24 hps21.2.1 | exact oq_0329481f g24 hps21.2.1 | omega)
          exact w_iret X.1 q hRt rfl (ax_d X (show cdA 276 71 = some (.ireturn, 1, 0, 0, 0) from rfl)) (show 3 ≤ 3 by decide) (show 24 ≤ 24 by decide) ⟨_, rfl, Is29, Gs29, JRLx_s29, (iC s29 397 (z).toNat), rfl, (rng_to _), by first | exact oq_b44a1c7f ws29_89 hps25.2 b27.1 | omega⟩
        ·
          refine z_const X rfl ?_
          exact w_iret X.1 q hRt rfl (ax_d X (show cdA 276 59 = some (.ireturn, 1, 0, 0, 0) from rfl)) (Nat.zero_le _) (Nat.zero_le _) ⟨_, rfl, Is25, Gs25, JRLx_s25, (-1), rfl, (by decide), by first | exact hps25.2 | omega⟩
      ·
        refine z_const X rfl ?_
        exact w_iret X.1 q hRt rfl (ax_d X (show cdA 276 49 = some (.ireturn, 1, 0, 0, 0) from rfl)) (Nat.zero_le _) (Nat.zero_le _) ⟨_, rfl, Is21, Gs21, JRLx_s21, 0, rfl, (by decide), by first | exact oq_094d069b ws21_89 ws18_89 ws4_89 ws3_89 p3 b2.1 | omega⟩
    ·
      refine z_load_n X (x := z) rfl (List.Mem.tail _ (List.Mem.tail _ (List.Mem.tail _ (List.Mem.head _)))) (z_const X rfl (z_bipush X rfl (zcS_i0 X E (As := [.int (Int32.ofInt z), .int (Int32.ofInt 0), .int (Int32.ofInt 23)]) (st := [.ref (A 179)]) rfl rfl (k_in G Is18 (by first | exact ⟨p2.1, p2.2⟩ | omega) (by first | exact ⟨by decide, by decide⟩ | omega) (by first | exact ⟨by decide, by decide⟩ | omega)) rfl (Nat.le_of_ble_eq_true rfl) (fun s32 e33 Is32 Fs32 hrs32 hps32 => ?_))))
      have Gs32 := fm_tq Gs18 Fs32 rfl rfl
      have JRLx_s32 : RLx s32 := RLx_fm Fs32 (by decide) JRLx_s18
      have ws32_73 : iI s32 73 = iI s18 73 := fm_iq Fs32 rfl
      have ws32_89 : iI s32 89 = iI s18 89 := fm_iq Fs32 rfl
      have N34 : ∀ e35 : Int, (((e33 ≠ 0) ∧ e35 = 0) ∨ ((e33 = 0) ∧ e35 = 1)) → WS k 41 [(0, .ref (A 179)), (1, .int (Int32.ofInt x)), (2, .int (Int32.ofInt y)), (3, .int (Int32.ofInt z))] [.int (Int32.ofInt e35), .ref (A 179)] (Wd A dT s32) 0 0 := by
        intro e35 he35
        have re35 : 0 ≤ e35 ∧ e35 ≤ 1 := by first | exact And.intro (oq_6d672f13 he35) (oq_ccfe7a71 he35) | (clear he35 hps32 g20 hps18 g6 hps4; omega) | (clear hps32 g20 hps18 g6 hps4; omega) | omega
        refine z_const X rfl (zcV_i0 X E 179 (As := [.int (Int32.ofInt e35), .int (Int32.ofInt 1)]) (st := []) rfl rfl rfl rfl (k_bad G Is32 (by first | exact oq_31e518ae re35.2 re35.1 | omega) (by first | exact ⟨by decide, by decide⟩ | omega)) rfl (Nat.le_of_ble_eq_true rfl) (fun s36 e37 Is36 Fs36 hrs36 hps36 => ?_))
        have Gs36 := fm_tq Gs32 Fs36 rfl rfl
        have JRLx_s36 : RLx s36 := RLx_fm Fs36 (by decide) JRLx_s32
        have b38 := bi_73 Is36
        have ws36_89 : iI s36 89 = iI s32 89 := fm_iq Fs36 rfl
        refine z_if_eq X (t := 50) rfl rfl hrs36 (fun g39 => ?_) (fun g39 => ?_)
        ·
          refine z_aload_n X (x := A 179) rfl (List.Mem.head _) (z_load_n X (x := y) rfl (List.Mem.tail _ (List.Mem.tail _ (List.Mem.head _))) (zcV_i1 X E 179 (As := [.int (Int32.ofInt y)]) (st := []) rfl rfl rfl rfl (k_findPlan G Is36 JRLx_s36 (by first | exact ⟨oq_0159bb48 g20 hps18, oq_8b498cf6 g20 hps18⟩ | omega) (by first | exact oq_2013374c ws36_89 ws32_89 ws18_89 ws4_89 ws3_89 b2.1 p3 | omega)) rfl (Nat.le_of_ble_eq_true rfl) (fun s40 e41 Is40 Fs40 JRLx_s40 hrs40 hps40 => ?_)))
          have hps40p := hps40.2
          have Gs40 := fm_ts Gs36 Fs40 (by decide) (by decide +kernel)
          have JRLx_s40 : RLx s40 := RLx_fm Fs40 (by decide) JRLx_s36
          have ws40_73 : iI s40 73 = iI s36 73 := fm_iq Fs40 rfl
          have b42 := bi_89 Is40
          refine z_if_ne X (t := 60) rfl rfl hrs40 (fun g43 => ?_) (fun g43 => ?_)
          ·
            refine z_aload_n X (x := A 179) rfl (List.Mem.head _) (z_load_n X (x := x) rfl (List.Mem.tail _ (List.Mem.head _)) (z_callV X 179 (rm := rmN 275) (As := [.int (Int32.ofInt x)]) (st := []) rfl rfl (by decide) rfl (by rw [E.1, E.2.1, E.2.2.1]; exact k_findRota G Is40 (by first | exact ⟨oq_fcd95e52 g6 hps4, oq_7e545af9 g6 hps4⟩ | omega)) ⟨by rw [E.2.2.2]; exact (show (rmN 275).frames + 1 ≤ (rmN 276).frames by decide), by rw [E.2.2.2]; exact (show 8 + (mNL (miB 275) + 11) + (rmN 275).locals ≤ (rmN 276).locals by decide), by rw [E.2.2.2]; exact (show 0 + 3 ≤ 3 by decide), by rw [E.2.2.2]; exact (show 0 + 24 ≤ 24 by decide)⟩ (Nat.le_of_ble_eq_true rfl) (fun vv s44 hq => ?_) (fun ee s44 hq => ?_)))
            rotate_left
            · obtain ⟨Is44, Fs44, hv, hps44⟩ := hq; cases hv
            obtain ⟨Is44, Fs44, hv, hps44⟩ := hq
            cases hv
            have Gs44 := fm_tq Gs40 Fs44 rfl rfl
            have JRLx_s44 : RLx s44 := RLx_fm Fs44 (by decide) JRLx_s40
            have ws44_73 : iI s44 73 = iI s40 73 := fm_iq Fs44 rfl
            have ws44_89 : iI s44 89 = iI s40 89 := fm_iq Fs44 rfl
            show WS k 65 [(0, .ref (A 179)), (1, .int (Int32.ofInt x)), (2, .int (Int32.ofInt y)), (3, .int (Int32.ofInt z))] [] (Wd A dT s44) 3 24
            refine z_aload_n X (x := A 179) rfl (List.Mem.head _) (s_getR X 179 rfl (c518_ok rfl) rfl rfl (z_load_n X (x := z) rfl (List.Mem.tail _ (List.Mem.tail _ (List.Mem.tail _ (List.Mem.head _)))) (z_ald X 452 rfl (c518_ok rfl) rfl (by first | exact oq_4c4e29f5 g39 hps36.2.1 re35.2 he35 hps32 | omega) (show z < 24 by first | exact oq_7cf08d15 g39 hps36.2.1 re35.2 he35 hps32 | omega) (cbig_ok rfl) ?_)))
            have b46 := bc_397 Is44 (show (z).toNat < 24 by first | exact oq_d2cd5ad0 g39 hps36.2.1 re35.2 he35 hps32 | omega)
            exact w_iret X.1 q hRt rfl (ax_d X (show cdA 276 71 = some (.ireturn, 1, 0, 0, 0) from rfl)) (show 3 ≤ 3 by decide) (show 24 ≤ 24 by decide) ⟨_, rfl, Is44, Gs44, JRLx_s44, (iC s44 397 (z).toNat), rfl, (rng_to _), by first | exact oq_b44a1c7f ws44_89 hps40.2 b42.1 | omega⟩
          ·
            refine z_const X rfl ?_
            exact w_iret X.1 q hRt rfl (ax_d X (show cdA 276 59 = some (.ireturn, 1, 0, 0, 0) from rfl)) (Nat.zero_le _) (Nat.zero_le _) ⟨_, rfl, Is40, Gs40, JRLx_s40, (-1), rfl, (by decide), by first | exact hps40.2 | omega⟩
        ·
          refine z_const X rfl ?_
          exact w_iret X.1 q hRt rfl (ax_d X (show cdA 276 49 = some (.ireturn, 1, 0, 0, 0) from rfl)) (Nat.zero_le _) (Nat.zero_le _) ⟨_, rfl, Is36, Gs36, JRLx_s36, 0, rfl, (by decide), by first | exact oq_2013374c ws36_89 ws32_89 ws18_89 ws4_89 ws3_89 b2.1 p3 | omega⟩
      refine z_if_ne X (t := 40) rfl rfl hrs32 (fun g47 => ?_) (fun g47 => ?_)
      ·
        exact z_const X rfl (N34 _ (Or.inl ⟨g47, rfl⟩))
      ·
        exact z_const X rfl (z_goto X (t := 41) rfl rfl (N34 _ (Or.inr (⟨g47, rfl⟩))))
set_option maxRecDepth 4000 in
theorem k_lacks (G : GX l s0 D tys a0 dT) (I : Bd s) (jRLx : RLx s) {x y : Int} (p0 : rng x) (p1 : rng y) (p2 : iI s 89 = 1) : CT l s0 D A dT 277 (rmN 277) [.ref (A 179), .int (Int32.ofInt x), .int (Int32.ofInt y)] s (fun o t => Bd t ∧ Fm [73, 104, 77, 75, 78, 79, 80, 81, 89] [161, 230, 202, 204, 205, 206, 207, 208, 209, 210, 211, 212, 213, 214, 215, 216, 217, 218, 219, 220, 221, 222, 223, 224, 225, 226, 227, 203, 395, 396, 397, 245, 246, 247, 248, 249, 250, 251, 252, 253, 254, 255, 256, 257, 258, 259, 260, 261, 262, 263, 264, 265, 266, 267, 268, 269, 270, 271, 272, 273, 274, 275, 276, 277, 278, 279, 280, 281, 282, 283, 284, 285, 286, 287, 288, 289, 290, 291, 292, 293, 294, 295, 296, 297, 298, 299, 300, 301, 302, 303, 304, 305, 306, 307, 308, 309, 310, 311, 312, 313, 314, 315, 316, 317, 318, 319, 320, 321, 322, 323, 324, 325, 326, 327, 328, 329, 330, 331, 332, 333, 334, 335, 336, 337, 338, 339, 340, 341, 342, 343, 344, 345, 346, 347, 348, 349, 350, 351, 352, 353, 354, 355, 356, 357, 358, 359, 360, 361, 362, 363, 364, 365, 366, 367, 368, 369, 370, 371, 372, 373, 374, 375, 376, 377, 378, 379, 380, 381, 382, 383, 384, 385, 386, 387, 388, 389, 390, 391, 392, 393, 394] s t ∧ RLx t ∧ ∃ e, o = .inl (some (.int (Int32.ofInt e))) ∧ rng e ∧ (iI t 89 = 1)) := by
  refine ct_of G (by decide) (Nat.le_of_ble_eq_true rfl) (fun k X E hRt hXt q => ?_)
  show WS k 0 [(0, .ref (A 179)), (1, .int (Int32.ofInt x)), (2, .int (Int32.ofInt y))] [] _ 0 0
  have F : Fm [73, 104, 77, 75, 78, 79, 80, 81, 89] [161, 230, 202, 204, 205, 206, 207, 208, 209, 210, 211, 212, 213, 214, 215, 216, 217, 218, 219, 220, 221, 222, 223, 224, 225, 226, 227, 203, 395, 396, 397, 245, 246, 247, 248, 249, 250, 251, 252, 253, 254, 255, 256, 257, 258, 259, 260, 261, 262, 263, 264, 265, 266, 267, 268, 269, 270, 271, 272, 273, 274, 275, 276, 277, 278, 279, 280, 281, 282, 283, 284, 285, 286, 287, 288, 289, 290, 291, 292, 293, 294, 295, 296, 297, 298, 299, 300, 301, 302, 303, 304, 305, 306, 307, 308, 309, 310, 311, 312, 313, 314, 315, 316, 317, 318, 319, 320, 321, 322, 323, 324, 325, 326, 327, 328, 329, 330, 331, 332, 333, 334, 335, 336, 337, 338, 339, 340, 341, 342, 343, 344, 345, 346, 347, 348, 349, 350, 351, 352, 353, 354, 355, 356, 357, 358, 359, 360, 361, 362, 363, 364, 365, 366, 367, 368, 369, 370, 371, 372, 373, 374, 375, 376, 377, 378, 379, 380, 381, 382, 383, 384, 385, 386, 387, 388, 389, 390, 391, 392, 393, 394] s s := fm_rf _ _ s
  have b1 := bi_73 I
  have b2 := bi_89 I
  refine z_aload_n X (x := A 179) rfl (List.Mem.head _) (z_const X rfl (s_putI X 179 rfl (c518_ok rfl) rfl rfl (by decide) rfl rfl rfl (wd_gen (fun s3 hs3 => ?_))))
  have Is3 : Bd s3 := eqB hs3 (bd_I I (show (0 : Int) ≤ 0 ∧ 0 ≤ 3 by first | exact ⟨by decide, by decide⟩ | omega) (by decide))
  have Fs3 := eqF hs3 (fm_I F (inl_ok (a := 73) rfl))
  have vs3 : iI s3 73 = 0 := eqI hs3 (iI_u (by decide))
  have ws3_89 : iI s3 89 = iI s 89 := eqI hs3 rfl
  have fs3 : Fm [73] [] s s3 := by rw [hs3]; exact fm_I (fm_rf _ _ _) (show 73 ∈ _ by decide)
  have JRLx_s3 : RLx s3 := RLx_fm fs3 (by decide) jRLx
  refine z_aload_n X (x := A 179) rfl (List.Mem.head _) (z_load_n X (x := x) rfl (List.Mem.tail _ (List.Mem.head _)) (z_const X rfl (z_bipush X rfl (zcS_i0 X E (As := [.int (Int32.ofInt x), .int (Int32.ofInt 1), .int (Int32.ofInt 8)]) (st := [.ref (A 179)]) rfl rfl (k_in G Is3 (by first | exact ⟨p0.1, p0.2⟩ | omega) (by first | exact ⟨by decide, by decide⟩ | omega) (by first | exact ⟨by decide, by decide⟩ | omega)) rfl (Nat.le_of_ble_eq_true rfl) (fun s4 e5 Is4 Fs4 hrs4 hps4 => ?_)))))
  have Gs4 := fm_tq Fs3 Fs4 rfl rfl
  have JRLx_s4 : RLx s4 := RLx_fm Fs4 (by decide) JRLx_s3
  have ws4_73 : iI s4 73 = iI s3 73 := fm_iq Fs4 rfl
  have ws4_89 : iI s4 89 = iI s3 89 := fm_iq Fs4 rfl
  refine z_if_eq X (t := 26) rfl rfl hrs4 (fun g6 => ?_) (fun g6 => ?_)
  ·
    refine z_const X rfl (z_goto X (t := 31) rfl rfl (z_const X rfl (zcV_i0 X E 179 (As := [.int (Int32.ofInt 1), .int (Int32.ofInt 1)]) (st := []) rfl rfl rfl rfl (k_bad G Is4 (by first | exact Or.inr (by decide) | omega) (by first | exact ⟨by decide, by decide⟩ | omega)) rfl (Nat.le_of_ble_eq_true rfl) (fun s7 e8 Is7 Fs7 hrs7 hps7 => ?_))))
    have Gs7 := fm_tq Gs4 Fs7 rfl rfl
    have JRLx_s7 : RLx s7 := RLx_fm Fs7 (by decide) JRLx_s4
    have b9 := bi_73 Is7
    have ws7_89 : iI s7 89 = iI s4 89 := fm_iq Fs7 rfl
    refine z_if_eq X (t := 40) rfl rfl hrs7 (fun g10 => ?_) (fun g10 => ?_)
    ·
      refine z_aload_n X (x := A 179) rfl (List.Mem.head _) (z_load_n X (x := y) rfl (List.Mem.tail _ (List.Mem.tail _ (List.Mem.head _))) (zcV_i1 X E 179 (As := [.int (Int32.ofInt y)]) (st := []) rfl rfl rfl rfl (k_findPlan G Is7 JRLx_s7 (by first | exact ⟨oq_65cab3da g10 hps7.2.1, oq_5b968bc5 g10 hps7.2.1⟩ | exact And.intro (oq_05f36df5 g10 hps7.2.1) (oq_ccd5ba31 g10 hps7.2.1) | omega) (by first | exact oq_29301542 ws7_89 ws4_89 ws3_89 p2 b2.1 | omega)) rfl (Nat.le_of_ble_eq_true rfl) (fun s11 e12 Is11 Fs11 JRLx_s11 hrs11 hps11 => ?_)))
      have hps11p := hps11.2
      have Gs11 := fm_ts Gs7 Fs11 (by decide) (by decide +kernel)
      have JRLx_s11 : RLx s11 := RLx_fm Fs11 (by decide) JRLx_s7
      have ws11_73 : iI s11 73 = iI s7 73 := fm_iq Fs11 rfl
      have b13 := bi_89 Is11
      refine z_if_ne X (t := 50) rfl rfl hrs11 (fun g14 => ?_) (fun g14 => ?_)
      ·
        refine z_aload_n X (x := A 179) rfl (List.Mem.head _) (z_load_n X (x := x) rfl (List.Mem.tail _ (List.Mem.head _)) (z_callV X 179 (rm := rmN 275) (As := [.int (Int32.ofInt x)]) (st := []) rfl rfl (by decide) rfl (by rw [E.1, E.2.1, E.2.2.1]; exact k_findRota G Is11 (by first | exact ⟨oq_c74211cc g10 hps7.2.1, oq_3ff45f06 g10 hps7.2.1⟩ | exact And.intro (oq_ca45149c g10 hps7.2.1) (oq_23b4ceb9 g10 hps7.2.1) | omega)) ⟨by rw [E.2.2.2]; exact (show (rmN 275).frames + 1 ≤ (rmN 277).frames by decide), by rw [E.2.2.2]; exact (show 8 + (mNL (miB 275) + 11) + (rmN 275).locals ≤ (rmN 277).locals by decide), by rw [E.2.2.2]; exact (show 0 + 3 ≤ 3 by decide), by rw [E.2.2.2]; exact (show 0 + 24 ≤ 24 by decide)⟩ (Nat.le_of_ble_eq_true rfl) (fun vv s15 hq => ?_) (fun ee s15 hq => ?_)))
        rotate_left
        · obtain ⟨Is15, Fs15, hv, hps15⟩ := hq; cases hv
        obtain ⟨Is15, Fs15, hv, hps15⟩ := hq
        cases hv
        have Gs15 := fm_tq Gs11 Fs15 rfl rfl
        have JRLx_s15 : RLx s15 := RLx_fm Fs15 (by decide) JRLx_s11
        have ws15_73 : iI s15 73 = iI s11 73 := fm_iq Fs15 rfl
        have ws15_89 : iI s15 89 = iI s11 89 := fm_iq Fs15 rfl
        show WS k 55 [(0, .ref (A 179)), (1, .int (Int32.ofInt x)), (2, .int (Int32.ofInt y))] [] (Wd A dT s15) 3 24
        refine z_aload_n X (x := A 179) rfl (List.Mem.head _) (z_getI X 179 rfl (c518_ok rfl) rfl rfl ?_)
        have b17 := bi_104 Is15
        exact w_iret X.1 q hRt rfl (ax_d X (show cdA 277 59 = some (.ireturn, 1, 0, 0, 0) from rfl)) (show 3 ≤ 3 by decide) (show 24 ≤ 24 by decide) ⟨_, rfl, Is15, Gs15, JRLx_s15, (iI s15 104), rfl, (rng_to _), by first | exact oq_b44a1c7f ws15_89 hps11.2 b13.1 | omega⟩
      ·
        refine z_const X rfl ?_
        exact w_iret X.1 q hRt rfl (ax_d X (show cdA 277 49 = some (.ireturn, 1, 0, 0, 0) from rfl)) (Nat.zero_le _) (Nat.zero_le _) ⟨_, rfl, Is11, Gs11, JRLx_s11, (-1), rfl, (by decide), by first | exact hps11.2 | omega⟩
    ·
      refine z_const X rfl ?_
      exact w_iret X.1 q hRt rfl (ax_d X (show cdA 277 39 = some (.ireturn, 1, 0, 0, 0) from rfl)) (Nat.zero_le _) (Nat.zero_le _) ⟨_, rfl, Is7, Gs7, JRLx_s7, 0, rfl, (by decide), by first | exact oq_29301542 ws7_89 ws4_89 ws3_89 p2 b2.1 | omega⟩
  ·
    refine z_load_n X (x := y) rfl (List.Mem.tail _ (List.Mem.tail _ (List.Mem.head _))) (z_const X rfl (z_bipush X rfl (zcS_i0 X E (As := [.int (Int32.ofInt y), .int (Int32.ofInt 0), .int (Int32.ofInt 23)]) (st := [.ref (A 179)]) rfl rfl (k_in G Is4 (by first | exact ⟨p1.1, p1.2⟩ | omega) (by first | exact ⟨by decide, by decide⟩ | omega) (by first | exact ⟨by decide, by decide⟩ | omega)) rfl (Nat.le_of_ble_eq_true rfl) (fun s18 e19 Is18 Fs18 hrs18 hps18 => ?_))))
    have Gs18 := fm_tq Gs4 Fs18 rfl rfl
    have JRLx_s18 : RLx s18 := RLx_fm Fs18 (by decide) JRLx_s4
    have ws18_73 : iI s18 73 = iI s4 73 := fm_iq Fs18 rfl
    have ws18_89 : iI s18 89 = iI s4 89 := fm_iq Fs18 rfl
    have N20 : ∀ e21 : Int, (((e19 ≠ 0) ∧ e21 = 0) ∨ ((e19 = 0) ∧ e21 = 1)) → WS k 31 [(0, .ref (A 179)), (1, .int (Int32.ofInt x)), (2, .int (Int32.ofInt y))] [.int (Int32.ofInt e21), .ref (A 179)] (Wd A dT s18) 0 0 := by
      intro e21 he21
      have re21 : 0 ≤ e21 ∧ e21 ≤ 1 := by first | exact And.intro (oq_6d672f13 he21) (oq_ccfe7a71 he21) | (clear he21 hps18 g6 hps4; omega) | (clear hps18 g6 hps4; omega) | omega
      refine z_const X rfl (zcV_i0 X E 179 (As := [.int (Int32.ofInt e21), .int (Int32.ofInt 1)]) (st := []) rfl rfl rfl rfl (k_bad G Is18 (by first | exact oq_31e518ae re21.2 re21.1 | omega) (by first | exact ⟨by decide, by decide⟩ | omega)) rfl (Nat.le_of_ble_eq_true rfl) (fun s22 e23 Is22 Fs22 hrs22 hps22 => ?_))
      have Gs22 := fm_tq Gs18 Fs22 rfl rfl
      have JRLx_s22 : RLx s22 := RLx_fm Fs22 (by decide) JRLx_s18
      have b24 := bi_73 Is22
      have ws22_89 : iI s22 89 = iI s18 89 := fm_iq Fs22 rfl
      refine z_if_eq X (t := 40) rfl rfl hrs22 (fun g25 => ?_) (fun g25 => ?_)
      ·
        refine z_aload_n X (x := A 179) rfl (List.Mem.head _) (z_load_n X (x := y) rfl (List.Mem.tail _ (List.Mem.tail _ (List.Mem.head _))) (zcV_i1 X E 179 (As := [.int (Int32.ofInt y)]) (st := []) rfl rfl rfl rfl (k_findPlan G Is22 JRLx_s22 (by first | exact ⟨oq_4c4e29f5 g25 hps22.2.1 re21.2 he21 hps18, oq_3a13f1ce g25 hps22.2.1 re21.2 he21 hps18⟩ | omega) (by first | exact oq_094d069b ws22_89 ws18_89 ws4_89 ws3_89 p2 b2.1 | omega)) rfl (Nat.le_of_ble_eq_true rfl) (fun s26 e27 Is26 Fs26 JRLx_s26 hrs26 hps26 => ?_)))
        have hps26p := hps26.2
        have Gs26 := fm_ts Gs22 Fs26 (by decide) (by decide +kernel)
        have JRLx_s26 : RLx s26 := RLx_fm Fs26 (by decide) JRLx_s22
        have ws26_73 : iI s26 73 = iI s22 73 := fm_iq Fs26 rfl
        have b28 := bi_89 Is26
        refine z_if_ne X (t := 50) rfl rfl hrs26 (fun g29 => ?_) (fun g29 => ?_)
        ·
          refine z_aload_n X (x := A 179) rfl (List.Mem.head _) (z_load_n X (x := x) rfl (List.Mem.tail _ (List.Mem.head _)) (z_callV X 179 (rm := rmN 275) (As := [.int (Int32.ofInt x)]) (st := []) rfl rfl (by decide) rfl (by rw [E.1, E.2.1, E.2.2.1]; exact k_findRota G Is26 (by first | exact ⟨oq_fcd95e52 g6 hps4, oq_7e545af9 g6 hps4⟩ | omega)) ⟨by rw [E.2.2.2]; exact (show (rmN 275).frames + 1 ≤ (rmN 277).frames by decide), by rw [E.2.2.2]; exact (show 8 + (mNL (miB 275) + 11) + (rmN 275).locals ≤ (rmN 277).locals by decide), by rw [E.2.2.2]; exact (show 0 + 3 ≤ 3 by decide), by rw [E.2.2.2]; exact (show 0 + 24 ≤ 24 by decide)⟩ (Nat.le_of_ble_eq_true rfl) (fun vv s30 hq => ?_) (fun ee s30 hq => ?_)))
          rotate_left
          · obtain ⟨Is30, Fs30, hv, hps30⟩ := hq; cases hv
          obtain ⟨Is30, Fs30, hv, hps30⟩ := hq
          cases hv
          have Gs30 := fm_tq Gs26 Fs30 rfl rfl
          have JRLx_s30 : RLx s30 := RLx_fm Fs30 (by decide) JRLx_s26
          have ws30_73 : iI s30 73 = iI s26 73 := fm_iq Fs30 rfl
          have ws30_89 : iI s30 89 = iI s26 89 := fm_iq Fs30 rfl
          show WS k 55 [(0, .ref (A 179)), (1, .int (Int32.ofInt x)), (2, .int (Int32.ofInt y))] [] (Wd A dT s30) 3 24
          refine z_aload_n X (x := A 179) rfl (List.Mem.head _) (z_getI X 179 rfl (c518_ok rfl) rfl rfl ?_)
          have b32 := bi_104 Is30
          exact w_iret X.1 q hRt rfl (ax_d X (show cdA 277 59 = some (.ireturn, 1, 0, 0, 0) from rfl)) (show 3 ≤ 3 by decide) (show 24 ≤ 24 by decide) ⟨_, rfl, Is30, Gs30, JRLx_s30, (iI s30 104), rfl, (rng_to _), by first | exact oq_b44a1c7f ws30_89 hps26.2 b28.1 | omega⟩
        ·
          refine z_const X rfl ?_
          exact w_iret X.1 q hRt rfl (ax_d X (show cdA 277 49 = some (.ireturn, 1, 0, 0, 0) from rfl)) (Nat.zero_le _) (Nat.zero_le _) ⟨_, rfl, Is26, Gs26, JRLx_s26, (-1), rfl, (by decide), by first | exact hps26.2 | omega⟩
      ·
        refine z_const X rfl ?_
        exact w_iret X.1 q hRt rfl (ax_d X (show cdA 277 39 = some (.ireturn, 1, 0, 0, 0) from rfl)) (Nat.zero_le _) (Nat.zero_le _) ⟨_, rfl, Is22, Gs22, JRLx_s22, 0, rfl, (by decide), by first | exact oq_094d069b ws22_89 ws18_89 ws4_89 ws3_89 p2 b2.1 | omega⟩
    refine z_if_ne X (t := 30) rfl rfl hrs18 (fun g33 => ?_) (fun g33 => ?_)
    ·
      exact z_const X rfl (N20 _ (Or.inl ⟨g33, rfl⟩))
    ·
      exact z_const X rfl (z_goto X (t := 31) rfl rfl (N20 _ (Or.inr (⟨g33, rfl⟩))))
set_option maxRecDepth 4000 in
theorem k_enough (G : GX l s0 D tys a0 dT) (I : Bd s) (jRLx : RLx s) {x : Int} (p0 : rng x) (p1 : iI s 89 = 1) : CT l s0 D A dT 278 (rmN 278) [.ref (A 179), .int (Int32.ofInt x)] s (fun o t => Bd t ∧ Fm [73, 104, 77, 75, 78, 79, 80, 81, 89] [161, 230, 202, 204, 205, 206, 207, 208, 209, 210, 211, 212, 213, 214, 215, 216, 217, 218, 219, 220, 221, 222, 223, 224, 225, 226, 227, 203, 395, 396, 397, 245, 246, 247, 248, 249, 250, 251, 252, 253, 254, 255, 256, 257, 258, 259, 260, 261, 262, 263, 264, 265, 266, 267, 268, 269, 270, 271, 272, 273, 274, 275, 276, 277, 278, 279, 280, 281, 282, 283, 284, 285, 286, 287, 288, 289, 290, 291, 292, 293, 294, 295, 296, 297, 298, 299, 300, 301, 302, 303, 304, 305, 306, 307, 308, 309, 310, 311, 312, 313, 314, 315, 316, 317, 318, 319, 320, 321, 322, 323, 324, 325, 326, 327, 328, 329, 330, 331, 332, 333, 334, 335, 336, 337, 338, 339, 340, 341, 342, 343, 344, 345, 346, 347, 348, 349, 350, 351, 352, 353, 354, 355, 356, 357, 358, 359, 360, 361, 362, 363, 364, 365, 366, 367, 368, 369, 370, 371, 372, 373, 374, 375, 376, 377, 378, 379, 380, 381, 382, 383, 384, 385, 386, 387, 388, 389, 390, 391, 392, 393, 394] s t ∧ RLx t ∧ ∃ e, o = .inl (some (.int (Int32.ofInt e))) ∧ rng e ∧ (iI t 89 = 1)) := by
  refine ct_of G (by decide) (Nat.le_of_ble_eq_true rfl) (fun k X E hRt hXt q => ?_)
  show WS k 0 [(0, .ref (A 179)), (1, .int (Int32.ofInt x))] [] _ 0 0
  have F : Fm [73, 104, 77, 75, 78, 79, 80, 81, 89] [161, 230, 202, 204, 205, 206, 207, 208, 209, 210, 211, 212, 213, 214, 215, 216, 217, 218, 219, 220, 221, 222, 223, 224, 225, 226, 227, 203, 395, 396, 397, 245, 246, 247, 248, 249, 250, 251, 252, 253, 254, 255, 256, 257, 258, 259, 260, 261, 262, 263, 264, 265, 266, 267, 268, 269, 270, 271, 272, 273, 274, 275, 276, 277, 278, 279, 280, 281, 282, 283, 284, 285, 286, 287, 288, 289, 290, 291, 292, 293, 294, 295, 296, 297, 298, 299, 300, 301, 302, 303, 304, 305, 306, 307, 308, 309, 310, 311, 312, 313, 314, 315, 316, 317, 318, 319, 320, 321, 322, 323, 324, 325, 326, 327, 328, 329, 330, 331, 332, 333, 334, 335, 336, 337, 338, 339, 340, 341, 342, 343, 344, 345, 346, 347, 348, 349, 350, 351, 352, 353, 354, 355, 356, 357, 358, 359, 360, 361, 362, 363, 364, 365, 366, 367, 368, 369, 370, 371, 372, 373, 374, 375, 376, 377, 378, 379, 380, 381, 382, 383, 384, 385, 386, 387, 388, 389, 390, 391, 392, 393, 394] s s := fm_rf _ _ s
  have b1 := bi_73 I
  have b2 := bi_89 I
  have L42 : ∀ (n : Nat) (t : PS) (xv nn : Int), Bd t → Fm [73, 104, 77, 75, 78, 79, 80, 81, 89] [161, 230, 202, 204, 205, 206, 207, 208, 209, 210, 211, 212, 213, 214, 215, 216, 217, 218, 219, 220, 221, 222, 223, 224, 225, 226, 227, 203, 395, 396, 397, 245, 246, 247, 248, 249, 250, 251, 252, 253, 254, 255, 256, 257, 258, 259, 260, 261, 262, 263, 264, 265, 266, 267, 268, 269, 270, 271, 272, 273, 274, 275, 276, 277, 278, 279, 280, 281, 282, 283, 284, 285, 286, 287, 288, 289, 290, 291, 292, 293, 294, 295, 296, 297, 298, 299, 300, 301, 302, 303, 304, 305, 306, 307, 308, 309, 310, 311, 312, 313, 314, 315, 316, 317, 318, 319, 320, 321, 322, 323, 324, 325, 326, 327, 328, 329, 330, 331, 332, 333, 334, 335, 336, 337, 338, 339, 340, 341, 342, 343, 344, 345, 346, 347, 348, 349, 350, 351, 352, 353, 354, 355, 356, 357, 358, 359, 360, 361, 362, 363, 364, 365, 366, 367, 368, 369, 370, 371, 372, 373, 374, 375, 376, 377, 378, 379, 380, 381, 382, 383, 384, 385, 386, 387, 388, 389, 390, 391, 392, 393, 394] s t → RLx t → (1 ≤ nn ∧ nn ≤ 9 ∧ iI t 89 = 1) → (9 - nn : Int).toNat < n → (∀ (t' : PS) (nn' : Int), Bd t' → Fm [73, 104, 77, 75, 78, 79, 80, 81, 89] [161, 230, 202, 204, 205, 206, 207, 208, 209, 210, 211, 212, 213, 214, 215, 216, 217, 218, 219, 220, 221, 222, 223, 224, 225, 226, 227, 203, 395, 396, 397, 245, 246, 247, 248, 249, 250, 251, 252, 253, 254, 255, 256, 257, 258, 259, 260, 261, 262, 263, 264, 265, 266, 267, 268, 269, 270, 271, 272, 273, 274, 275, 276, 277, 278, 279, 280, 281, 282, 283, 284, 285, 286, 287, 288, 289, 290, 291, 292, 293, 294, 295, 296, 297, 298, 299, 300, 301, 302, 303, 304, 305, 306, 307, 308, 309, 310, 311, 312, 313, 314, 315, 316, 317, 318, 319, 320, 321, 322, 323, 324, 325, 326, 327, 328, 329, 330, 331, 332, 333, 334, 335, 336, 337, 338, 339, 340, 341, 342, 343, 344, 345, 346, 347, 348, 349, 350, 351, 352, 353, 354, 355, 356, 357, 358, 359, 360, 361, 362, 363, 364, 365, 366, 367, 368, 369, 370, 371, 372, 373, 374, 375, 376, 377, 378, 379, 380, 381, 382, 383, 384, 385, 386, 387, 388, 389, 390, 391, 392, 393, 394] s t' → RLx t' → (1 ≤ nn' ∧ nn' ≤ 9 ∧ iI t' 89 = 1) → WS k 68 [(0, .ref (A 179)), (1, .int (Int32.ofInt xv)), (2, .int (Int32.ofInt nn'))] [] (Wd A dT t') (3 * (nn' - 1 : Int).toNat) (24 * (nn' - 1 : Int).toNat)) → WS k 42 [(0, .ref (A 179)), (1, .int (Int32.ofInt xv)), (2, .int (Int32.ofInt nn))] [] (Wd A dT t) (3 * (nn - 1 : Int).toNat) (24 * (nn - 1 : Int).toNat) := by
    intro n
    induction n with
    | zero =>
      intro t xv nn I F jjRLx hi hm kx
      exact absurd hm (Nat.not_lt_zero _)
    | succ n ih =>
      intro t xv nn I F jjRLx hi hm kx
      have b1001 := bi_73 I
      have b1002 := bi_89 I
      refine z_load_n X (x := nn) rfl (List.Mem.tail _ (List.Mem.tail _ (List.Mem.head _))) (z_bipush X rfl (z_icmp_gt X (t := 68) rfl rfl ⟨by first | exact oq_9462313e hi.1 | omega, by first | exact oq_f7e7bb0e hi.2.1 | omega⟩ (by decide) (fun g1003 => ?_) (fun g1003 => ?_)))
      ·
        refine WS_pq [0, 1, 2] (lv' := [(0, .ref (A 179)), (1, .int (Int32.ofInt xv)), (2, .int (Int32.ofInt nn))]) rfl ?_
        exact kx _ nn I F jjRLx (by first | exact ⟨hi.1, hi.2.1, hi.2.2⟩ | omega)
      ·
        refine z_aload_n X (x := A 179) rfl (List.Mem.head _) (z_load_n X (x := nn) rfl (List.Mem.tail _ (List.Mem.tail _ (List.Mem.head _))) (z_callV X 179 (rm := rmN 275) (As := [.int (Int32.ofInt nn)]) (st := []) rfl rfl (by decide) rfl (by rw [E.1, E.2.1, E.2.2.1]; exact k_findRota G I (by first | exact ⟨hi.1, g1003⟩ | omega)) ⟨by rw [E.2.2.2]; exact (show (rmN 275).frames + 1 ≤ (rmN 278).frames by decide), by rw [E.2.2.2]; exact (show 8 + (mNL (miB 275) + 11) + (rmN 275).locals ≤ (rmN 278).locals by decide), by rw [E.2.2.2]; exact (show (3 * (nn - 1 : Int).toNat) + 3 ≤ 24 by first | exact oq_76832dee g1003 | omega), by rw [E.2.2.2]; exact (show (24 * (nn - 1 : Int).toNat) + 24 ≤ 192 by first | exact oq_a8457be6 g1003 | omega)⟩ (Nat.le_of_ble_eq_true rfl) (fun vv s1004 hq => ?_) (fun ee s1004 hq => ?_)))
        rotate_left
        · obtain ⟨Is1004, Fs1004, hv, hps1004⟩ := hq; cases hv
        obtain ⟨Is1004, Fs1004, hv, hps1004⟩ := hq
        cases hv
        have Gs1004 := fm_tq F Fs1004 rfl rfl
        have JRLx_s1004 : RLx s1004 := RLx_fm Fs1004 (by decide) jjRLx
        have ws1004_73 : iI s1004 73 = iI t 73 := fm_iq Fs1004 rfl
        have ws1004_89 : iI s1004 89 = iI t 89 := fm_iq Fs1004 rfl
        show WS k 53 [(0, .ref (A 179)), (1, .int (Int32.ofInt xv)), (2, .int (Int32.ofInt nn))] [] (Wd A dT s1004) ((3 * (nn - 1 : Int).toNat) + 3) ((24 * (nn - 1 : Int).toNat) + 24)
        refine z_aload_n X (x := A 179) rfl (List.Mem.head _) (z_getI X 179 rfl (c518_ok rfl) rfl rfl ?_)
        have b1006 := bi_104 Is1004
        refine z_if_ne X (t := 62) rfl rfl (rng_to _) (fun g1007 => ?_) (fun g1007 => ?_)
        ·
          refine z_inc X (x := nn) (lv' := [(2, .int (Int32.ofInt (nn + 1))), (0, .ref (A 179)), (1, .int (Int32.ofInt xv))]) rfl (by decide) (List.Mem.tail _ (List.Mem.tail _ (List.Mem.head _))) (fun _ h => h) (z_goto X (t := 42) rfl rfl (WS_pq [1, 2, 0] (lv' := [(0, .ref (A 179)), (1, .int (Int32.ofInt xv)), (2, .int (Int32.ofInt (nn + 1)))]) rfl (w_widen (ce' := (3 * ((nn + 1) - 1 : Int).toNat)) (sl' := (24 * ((nn + 1) - 1 : Int).toNat)) (by first | exact oq_90afd5ad hi.1 | (clear g1007; omega) | omega) (by first | exact oq_f041d202 hi.1 | (clear g1007; omega) | omega) ?_)))
          exact ih _ xv (nn + 1) Is1004 Gs1004 JRLx_s1004 (by first | exact ⟨oq_1e1a2df6 hi.1, oq_c5edd56f g1003, oq_b44a1c7f ws1004_89 hi.2.2 b1002.1⟩ | omega) (by first | exact qk_me hm (by decide) (oq_fa1cb672 g1003) | exact oq_5c4c75c6 g1003 hm | omega) kx
        ·
          refine z_load_n X (x := nn) rfl (List.Mem.tail _ (List.Mem.tail _ (List.Mem.head _))) ?_
          exact w_iret X.1 q hRt rfl (ax_d X (show cdA 278 61 = some (.ireturn, 1, 0, 0, 0) from rfl)) (show ((3 * (nn - 1 : Int).toNat) + 3) ≤ 24 by first | exact oq_76832dee g1003 | omega) (show ((24 * (nn - 1 : Int).toNat) + 24) ≤ 192 by first | exact oq_a8457be6 g1003 | omega) ⟨_, rfl, Is1004, Gs1004, JRLx_s1004, nn, rfl, ⟨by first | exact oq_9462313e hi.1 | omega, by first | exact oq_d3f5d874 g1003 | omega⟩, by first | exact oq_b44a1c7f ws1004_89 hi.2.2 b1002.1 | omega⟩
  refine z_aload_n X (x := A 179) rfl (List.Mem.head _) (z_const X rfl (s_putI X 179 rfl (c518_ok rfl) rfl rfl (by decide) rfl rfl rfl (wd_gen (fun s3 hs3 => ?_))))
  have Is3 : Bd s3 := eqB hs3 (bd_I I (show (0 : Int) ≤ 0 ∧ 0 ≤ 3 by first | exact ⟨by decide, by decide⟩ | omega) (by decide))
  have Fs3 := eqF hs3 (fm_I F (inl_ok (a := 73) rfl))
  have vs3 : iI s3 73 = 0 := eqI hs3 (iI_u (by decide))
  have ws3_89 : iI s3 89 = iI s 89 := eqI hs3 rfl
  have fs3 : Fm [73] [] s s3 := by rw [hs3]; exact fm_I (fm_rf _ _ _) (show 73 ∈ _ by decide)
  have JRLx_s3 : RLx s3 := RLx_fm fs3 (by decide) jRLx
  refine z_aload_n X (x := A 179) rfl (List.Mem.head _) (z_load_n X (x := x) rfl (List.Mem.tail _ (List.Mem.head _)) (z_const X rfl (z_bipush X rfl (zcS_i0 X E (As := [.int (Int32.ofInt x), .int (Int32.ofInt 0), .int (Int32.ofInt 23)]) (st := [.ref (A 179)]) rfl rfl (k_in G Is3 (by first | exact ⟨p0.1, p0.2⟩ | omega) (by first | exact ⟨by decide, by decide⟩ | omega) (by first | exact ⟨by decide, by decide⟩ | omega)) rfl (Nat.le_of_ble_eq_true rfl) (fun s4 e5 Is4 Fs4 hrs4 hps4 => ?_)))))
  have Gs4 := fm_tq Fs3 Fs4 rfl rfl
  have JRLx_s4 : RLx s4 := RLx_fm Fs4 (by decide) JRLx_s3
  have ws4_73 : iI s4 73 = iI s3 73 := fm_iq Fs4 rfl
  have ws4_89 : iI s4 89 = iI s3 89 := fm_iq Fs4 rfl
  have N6 : ∀ e7 : Int, (((e5 ≠ 0) ∧ e7 = 0) ∨ ((e5 = 0) ∧ e7 = 1)) → WS k 21 [(0, .ref (A 179)), (1, .int (Int32.ofInt x))] [.int (Int32.ofInt e7), .ref (A 179)] (Wd A dT s4) 0 0 := by
    intro e7 he7
    have re7 : 0 ≤ e7 ∧ e7 ≤ 1 := by first | exact And.intro (oq_6d672f13 he7) (oq_ccfe7a71 he7) | (clear he7 hps4; omega) | (clear hps4; omega) | omega
    refine z_const X rfl (zcV_i0 X E 179 (As := [.int (Int32.ofInt e7), .int (Int32.ofInt 1)]) (st := []) rfl rfl rfl rfl (k_bad G Is4 (by first | exact oq_31e518ae re7.2 re7.1 | omega) (by first | exact ⟨by decide, by decide⟩ | omega)) rfl (Nat.le_of_ble_eq_true rfl) (fun s8 e9 Is8 Fs8 hrs8 hps8 => ?_))
    have Gs8 := fm_tq Gs4 Fs8 rfl rfl
    have JRLx_s8 : RLx s8 := RLx_fm Fs8 (by decide) JRLx_s4
    have b10 := bi_73 Is8
    have ws8_89 : iI s8 89 = iI s4 89 := fm_iq Fs8 rfl
    refine z_if_eq X (t := 30) rfl rfl hrs8 (fun g11 => ?_) (fun g11 => ?_)
    ·
      refine z_aload_n X (x := A 179) rfl (List.Mem.head _) (z_load_n X (x := x) rfl (List.Mem.tail _ (List.Mem.head _)) (zcV_i1 X E 179 (As := [.int (Int32.ofInt x)]) (st := []) rfl rfl rfl rfl (k_findPlan G Is8 JRLx_s8 (by first | exact ⟨oq_4c4e29f5 g11 hps8.2.1 re7.2 he7 hps4, oq_3a13f1ce g11 hps8.2.1 re7.2 he7 hps4⟩ | omega) (by first | exact oq_29301542 ws8_89 ws4_89 ws3_89 p1 b2.1 | omega)) rfl (Nat.le_of_ble_eq_true rfl) (fun s12 e13 Is12 Fs12 JRLx_s12 hrs12 hps12 => ?_)))
      have hps12p := hps12.2
      have Gs12 := fm_ts Gs8 Fs12 (by decide) (by decide +kernel)
      have JRLx_s12 : RLx s12 := RLx_fm Fs12 (by decide) JRLx_s8
      have ws12_73 : iI s12 73 = iI s8 73 := fm_iq Fs12 rfl
      have b14 := bi_89 Is12
      refine z_if_ne X (t := 40) rfl rfl hrs12 (fun g15 => ?_) (fun g15 => ?_)
      ·
        refine z_const X rfl (z_store_n X (lv' := [(2, .int (Int32.ofInt 1)), (0, .ref (A 179)), (1, .int (Int32.ofInt x))]) rfl (by decide) (fun _ h => h) (WS_pq [1, 2, 0] (lv' := [(0, .ref (A 179)), (1, .int (Int32.ofInt x)), (2, .int (Int32.ofInt 1))]) rfl (w_widen (ce' := (3 * (1 - 1 : Int).toNat)) (sl' := (24 * (1 - 1 : Int).toNat)) (by first | exact oq_daf44483 | (clear g15 hps12 hps8 he7 hps4; omega) | (clear hps12 hps8 he7 hps4; omega) | omega) (by first | exact oq_f638e75d | (clear g15 hps12 hps8 he7 hps4; omega) | (clear hps12 hps8 he7 hps4; omega) | omega) (L42 ((9 - 1 : Int).toNat + 1) s12 x 1 Is12 Gs12 JRLx_s12 (by first | exact ⟨by decide, by decide, hps12.2⟩ | omega) (Nat.lt_succ_self _) ?_))))
        intro s16 x17 Is16 Fs16 JRLx_s16 hs16
        have b18 := bi_73 Is16
        have b19 := bi_89 Is16
        refine z_const X rfl ?_
        exact w_iret X.1 q hRt rfl (ax_d X (show cdA 278 69 = some (.ireturn, 1, 0, 0, 0) from rfl)) (show (3 * (x17 - 1 : Int).toNat) ≤ 24 by first | exact oq_35f760f1 hs16.2.1 | (clear g15 hps12 hps8 he7 hps4; omega) | (clear hps12 hps8 he7 hps4; omega) | omega) (show (24 * (x17 - 1 : Int).toNat) ≤ 192 by first | exact oq_5a995d7a hs16.2.1 | (clear g15 hps12 hps8 he7 hps4; omega) | (clear hps12 hps8 he7 hps4; omega) | omega) ⟨_, rfl, Is16, Fs16, JRLx_s16, (-1), rfl, (by decide), by first | exact hs16.2.2 | omega⟩
      ·
        refine z_const X rfl ?_
        exact w_iret X.1 q hRt rfl (ax_d X (show cdA 278 39 = some (.ireturn, 1, 0, 0, 0) from rfl)) (Nat.zero_le _) (Nat.zero_le _) ⟨_, rfl, Is12, Gs12, JRLx_s12, (-1), rfl, (by decide), by first | exact hps12.2 | omega⟩
    ·
      refine z_const X rfl ?_
      exact w_iret X.1 q hRt rfl (ax_d X (show cdA 278 29 = some (.ireturn, 1, 0, 0, 0) from rfl)) (Nat.zero_le _) (Nat.zero_le _) ⟨_, rfl, Is8, Gs8, JRLx_s8, 0, rfl, (by decide), by first | exact oq_29301542 ws8_89 ws4_89 ws3_89 p1 b2.1 | omega⟩
  refine z_if_ne X (t := 20) rfl rfl hrs4 (fun g20 => ?_) (fun g20 => ?_)
  ·
    exact z_const X rfl (N6 _ (Or.inl ⟨g20, rfl⟩))
  ·
    exact z_const X rfl (z_goto X (t := 21) rfl rfl (N6 _ (Or.inr (⟨g20, rfl⟩))))
end M60
end
section
/-! The model: ways round a storm -/
/-- d is beside x by the step y -/
def BS (x y d : Int) : Prop := ((y = 0 ∧ ((x % 8 = 7 ∧ d = -1) ∨ (¬ x % 8 = 7 ∧ d = x + 1))) ∨ (y = 1 ∧ ((x % 8 = 0 ∧ d = -1) ∨ (¬ x % 8 = 0 ∧ d = x - 1))) ∨ (y = 2 ∧ ((x / 8 % 8 = 7 ∧ d = -1) ∨ (¬ x / 8 % 8 = 7 ∧ d = x + 8))) ∨ (y = 3 ∧ ((x / 8 % 8 = 0 ∧ d = -1) ∨ (¬ x / 8 % 8 = 0 ∧ d = x - 8))) ∨ (y = 4 ∧ ((x / 64 = 1 ∧ d = -1) ∨ (¬ x / 64 = 1 ∧ d = x + 64))) ∨ (y = 5 ∧ ((x / 64 = 0 ∧ d = -1) ∨ (¬ x / 64 = 0 ∧ d = x - 64)))) ∧ -1 ≤ d ∧ d ≤ 127
theorem bs_sym {x y d : Int} (hx : 0 ≤ x ∧ x ≤ 127) (hd : d ≠ -1) (h : BS x y d) : ∃ z : Int, 0 ≤ z ∧ z ≤ 5 ∧ BS d z x := by
  unfold BS at h ⊢
  obtain ⟨h, hb⟩ := h
  rcases h with ⟨e, h⟩ | ⟨e, h⟩ | ⟨e, h⟩ | ⟨e, h⟩ | ⟨e, h⟩ | ⟨e, h⟩ <;> rcases h with ⟨h1, h2⟩ | ⟨h1, h2⟩
  · exact absurd h2 hd
  · exact ⟨1, by decide, by decide, ⟨Or.inr (Or.inl ⟨rfl, Or.inr ⟨by omega, by omega⟩⟩), by omega, by omega⟩⟩
  · exact absurd h2 hd
  · exact ⟨0, by decide, by decide, ⟨Or.inl ⟨rfl, Or.inr ⟨by omega, by omega⟩⟩, by omega, by omega⟩⟩
  · exact absurd h2 hd
  · exact ⟨3, by decide, by decide, ⟨Or.inr (Or.inr (Or.inr (Or.inl ⟨rfl, Or.inr ⟨by omega, by omega⟩⟩))), by omega, by omega⟩⟩
  · exact absurd h2 hd
  · exact ⟨2, by decide, by decide, ⟨Or.inr (Or.inr (Or.inl ⟨rfl, Or.inr ⟨by omega, by omega⟩⟩)), by omega, by omega⟩⟩
  · exact absurd h2 hd
  · exact ⟨5, by decide, by decide, ⟨Or.inr (Or.inr (Or.inr (Or.inr (Or.inr (⟨rfl, Or.inr ⟨by omega, by omega⟩⟩))))), by omega, by omega⟩⟩
  · exact absurd h2 hd
  · exact ⟨4, by decide, by decide, ⟨Or.inr (Or.inr (Or.inr (Or.inr (Or.inl ⟨rfl, Or.inr ⟨by omega, by omega⟩⟩)))), by omega, by omega⟩⟩
theorem bs_fun {x y d e : Int} (h : BS x y d) (g : BS x y e) : d = e := by
  unfold BS at h g
  obtain ⟨h, -⟩ := h
  obtain ⟨g, -⟩ := g
  rcases h with ⟨e1, h⟩ | ⟨e1, h⟩ | ⟨e1, h⟩ | ⟨e1, h⟩ | ⟨e1, h⟩ | ⟨e1, h⟩ <;> rcases g with ⟨e2, g⟩ | ⟨e2, g⟩ | ⟨e2, g⟩ | ⟨e2, g⟩ | ⟨e2, g⟩ | ⟨e2, g⟩ <;> omega
def rch (t : PS) (j : Nat) : Int := if iC t 404 j = -1 then 0 else 1
def smF (t : PS) : Int := sm (rch t) 128
/-- the cells reached so far -/
def FB (t : PS) (n : Int) : Prop := smF t = n ∧ (∀ j, j < 128 → iC t 404 j ≤ n - 1) ∧ (∀ j, j < 128 → 1 ≤ iC t 404 j → ∃ d : Nat, d < 128 ∧ (∃ y : Int, 0 ≤ y ∧ y ≤ 5 ∧ BS j y d) ∧ iC t 404 d = iC t 404 j - 1 ∧ iC t 399 d = 0) ∧ ∀ i : Nat, i < 128 → (i : Int) < n → 0 ≤ iC t 404 (iC t 232 i).toNat ∧ iC t 399 (iC t 232 i).toNat = 0
theorem FB_fm {L M : List Nat} {s t : PS} {n : Int} (F : Fm L M s t) (h : 404 ∉ M ∧ 399 ∉ M ∧ 232 ∉ M) (r : FB s n) : FB t n := by
  obtain ⟨r1, r2, r3, r4⟩ := r
  have e1 : ∀ j, iC t 404 j = iC s 404 j := fun j => fm_c F h.1
  have e2 : ∀ j, iC t 399 j = iC s 399 j := fun j => fm_c F h.2.1
  have e3 : ∀ j, iC t 232 j = iC s 232 j := fun j => fm_c F h.2.2
  refine ⟨?_, fun j hj => by rw [e1]; exact r2 j hj, fun j hj h1 => ?_, fun i hi h1 => by rw [e3, e1, e2]; exact r4 i hi h1⟩
  · rw [← r1]; exact sm_eq (fun j _ => by unfold rch; rw [e1])
  · rw [e1] at h1
    obtain ⟨d, d1, d2, d3, d4⟩ := r3 j hj h1
    exact ⟨d, d1, d2, by rw [e1, e1]; exact d3, by rw [e2]; exact d4⟩
theorem FB_0 {t : PS} {b : Int} {t1 t2 : PS} (hb : 0 ≤ b ∧ b ≤ 127) (h0 : ∀ j, j < 128 → iC t 404 j = -1) (hs : iC t 399 (b : Int).toNat = 0) (e1 : t1 = uC t 404 (b : Int).toNat (Int32.ofInt 0)) (e2 : t2 = uC t1 232 (0 : Int).toNat (Int32.ofInt b)) : FB t2 1 := by
  have a1 : ∀ j, iC t2 404 j = iC t1 404 j := fun j => by rw [e2]; exact iC_a (by decide)
  have a2 : ∀ j, iC t2 399 j = iC t 399 j := fun j => by rw [e2, iC_a (by decide), e1]; exact iC_a (by decide)
  have b0 : iC t1 404 (b : Int).toNat = 0 := by rw [e1]; exact iC_u ⟨by omega, by omega⟩
  have b1 : ∀ j, j ≠ (b : Int).toNat → iC t1 404 j = iC t 404 j := fun j hj => by rw [e1]; exact iC_n hj
  refine ⟨?_, fun j hj => ?_, fun j hj h1 => ?_, fun i hi h1 => ?_⟩
  · show sm (rch t2) 128 = 1
    have z : sm (rch t) 128 = 0 := sm_0 (fun j hj => by unfold rch; rw [if_pos (h0 j hj)])
    have u := sm_up (f := rch t) (g := rch t2) (i := (b : Int).toNat) (fun j hj => by unfold rch; rw [a1, b1 j hj]) (n := 128) (by omega)
    rw [z] at u
    rw [u]
    unfold rch
    rw [a1, b0, if_pos (h0 _ (by omega)), if_neg (by decide)]
    rfl
  · rw [a1]
    by_cases e : j = (b : Int).toNat
    · rw [e, b0]; decide
    · rw [b1 j e, h0 j hj]; decide
  · exfalso
    rw [a1] at h1
    by_cases e : j = (b : Int).toNat
    · rw [e, b0] at h1; omega
    · rw [b1 j e, h0 j hj] at h1; omega
  · have ei : i = (0 : Int).toNat := by show i = 0; omega
    rw [ei, a1, a2]
    rw [show iC t2 232 (0 : Int).toNat = b by rw [e2]; exact iC_u ⟨by omega, by omega⟩]
    rw [b0]
    exact ⟨by decide, hs⟩
/-- one cell more -/
theorem FB_up {t t1 t2 : PS} {n x y d : Int} (I : Bd t) (r : FB t n) (hn : 1 ≤ n ∧ n ≤ 127) (hx : 0 ≤ x ∧ x ≤ 127) (hd : 0 ≤ d ∧ d ≤ 127) (hs : iC t 399 (d : Int).toNat = 0) (hf : iC t 404 (d : Int).toNat = -1) (hB : BS x y d) (hx1 : 0 ≤ iC t 404 (x : Int).toNat) (hx2 : iC t 399 (x : Int).toNat = 0) (e1 : t1 = uC t 404 (d : Int).toNat (Int32.ofInt (iC t 404 (x : Int).toNat + 1))) (e2 : t2 = uC t1 232 (n : Int).toNat (Int32.ofInt d)) : FB t2 (n + 1) := by
  obtain ⟨r1, r2, r3, r4⟩ := r
  have hxb := r2 (x : Int).toNat (by omega)
  have a1 : ∀ j, iC t2 404 j = iC t1 404 j := fun j => by rw [e2]; exact iC_a (by decide)
  have a2 : ∀ j, iC t2 399 j = iC t 399 j := fun j => by rw [e2, iC_a (by decide), e1]; exact iC_a (by decide)
  have b0 : iC t1 404 (d : Int).toNat = iC t 404 (x : Int).toNat + 1 := by rw [e1]; exact iC_u ⟨by omega, by omega⟩
  have b1 : ∀ j, j ≠ (d : Int).toNat → iC t1 404 j = iC t 404 j := fun j hj => by rw [e1]; exact iC_n hj
  have hne : (x : Int).toNat ≠ (d : Int).toNat := fun q => by rw [q, hf] at hx1; omega
  refine ⟨?_, fun j hj => ?_, fun j hj h1 => ?_, fun i hi h1 => ?_⟩
  · show sm (rch t2) 128 = n + 1
    have u := sm_up (f := rch t) (g := rch t2) (i := (d : Int).toNat) (fun j hj => by unfold rch; rw [a1, b1 j hj]) (n := 128) (by omega)
    have u0 : sm (rch t) 128 = n := r1
    rw [u0] at u
    rw [u]
    have v1 : rch t (d : Int).toNat = 0 := by unfold rch; rw [if_pos hf]
    have v2 : rch t2 (d : Int).toNat = 1 := by unfold rch; rw [a1, b0, if_neg (by omega)]
    omega
  · rw [a1]
    by_cases e : j = (d : Int).toNat
    · rw [e, b0]; omega
    · rw [b1 j e]; have := r2 j hj; omega
  · rw [a1] at h1
    by_cases e : j = (d : Int).toNat
    · obtain ⟨z, z0, z1, z2⟩ := bs_sym hx (by omega) hB
      have ej : (j : Int) = d := by omega
      refine ⟨(x : Int).toNat, by omega, ⟨z, z0, z1, by rw [ej, Int.toNat_of_nonneg hx.1]; exact z2⟩, ?_, by rw [a2]; exact hx2⟩
      rw [a1, a1, e, b0, b1 _ hne]; omega
    · rw [b1 j e] at h1
      obtain ⟨c, c1, c2, c3, c4⟩ := r3 j hj h1
      have hc : c ≠ (d : Int).toNat := fun q => by rw [q, hf] at c3; omega
      exact ⟨c, c1, c2, by rw [a1, a1, b1 j e, b1 c hc]; exact c3, by rw [a2]; exact c4⟩
  · by_cases e : i = (n : Int).toNat
    · rw [e, show iC t2 232 (n : Int).toNat = d by rw [e2]; exact iC_u ⟨by omega, by omega⟩, a1, a2, b0]
      exact ⟨by omega, hs⟩
    · have eh : iC t2 232 i = iC t 232 i := by rw [e2, iC_n e, e1]; exact iC_a (by decide)
      obtain ⟨g1, g2⟩ := r4 i hi (by omega)
      have hc : (iC t 232 i).toNat ≠ (d : Int).toNat := fun q => by rw [q, hf] at g1; omega
      rw [eh, a1, a2, b1 _ hc]
      exact ⟨g1, g2⟩
theorem FB_le {t : PS} {n : Int} (r : FB t n) {d : Nat} (hd : d < 128) (hf : iC t 404 d = -1) : n ≤ 127 := by
  rw [← r.1]
  exact sm_lt (i := d) (n := 128) (by unfold rch; rw [if_pos hf]; decide) hd (fun j _ => by unfold rch; split <;> decide)
section M61
variable {l : Launch} {s0 : State} {D : va_G} {tys : List (ClassId × FieldType)} {a0 : Array Value} {A : Nat → Nat} {dT : Nat → ClassId} {s : PS}
end M61
end
