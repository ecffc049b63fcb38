theorem oq_2c248f40 {a0 : Int} (h0 : a0 < 24) : (a0 - 1) < 24 := by omega
theorem oq_94a41655 {a0 : Int} (h0 : a0 < 24) : ((a0 - 1) : Int).toNat < 24 := by omega
theorem oq_29301542 {a0 a1 a2 a3 : Int} (h0 : a0 = a1) (h1 : a1 = a2) (h2 : a2 = a3) (h3 : a3 = 1) (h4 : 1 ≤ a3) : a0 = 1 := by omega
theorem oq_52fc8c25 {a0 : Int} (h0 : a0 ≠ (-2)) (h1 : a0 ≠ (-1)) (h2 : (-2) ≤ a0) : 0 ≤ a0 := by omega
theorem oq_138251d6 {a0 : Int} (h0 : a0 ≤ 23) : (a0 : Int).toNat < 24 := by omega
theorem oq_094d069b {a0 a1 a2 a3 a4 : Int} (h0 : a0 = a1) (h1 : a1 = a2) (h2 : a2 = a3) (h3 : a3 = a4) (h4 : a4 = 1) (h5 : 1 ≤ a4) : a0 = 1 := by omega
theorem oq_e297cd40 {a0 a1 : Int} (h0 : a0 < a1) (h1 : a1 ≤ 8) : a0 ≤ 7 := by omega
theorem oq_0911b3f0 {a0 a1 : Int} (h0 : 0 ≤ a0) (h1 : a1 ≤ 8) : (-2147483648) ≤ (a0 - a1) := by omega
theorem oq_7b087cf4 {a0 : Int} (h0 : a0 ≤ 23) : (a0 - 1) ≤ 2147483647 := by omega
theorem oq_17ce71fa {a0 : Int} (h0 : a0 < 256) : a0 ≤ 2147483647 := by omega
theorem oq_8cccae95 {a0 a1 a2 : Int} (h0 : (-1) ≤ a0) (h1 : a1 ≤ 7) : (((100 * (a2 + (-1))) + a1) + 1) < (((100 * a2) + a0) + 1) := by omega
theorem oq_e2d048ad {a0 a1 : Int} (h0 : (-1) ≤ a0) (h1 : 0 < a1) : 0 < (((100 * a1) + a0) + 1) := by omega
theorem oq_012028ef {a0 a1 a2 : Int} (h0 : a0 = (-1)) (h1 : a1 ≠ (-1)) (h2 : (-1) ≤ a1) : (((100 * a2) + a0) + 1) < (((100 * a2) + a1) + 1) := by omega
theorem oq_b11e0c68 {a0 : Int} (h0 : a0 < 2) : a0 ≤ 1 := by omega
theorem oq_f4e79888 {a0 : Int} (h0 : a0 ≤ 1) : (a0 + 1) ≤ 2 := by omega
theorem oq_8f78399e {a0 : Int} (h0 : a0 ≤ 1) : 0 < (2 - a0) := by omega
theorem oq_b44a1c7f {a0 a1 : Int} (h0 : a0 = a1) (h1 : a1 = 1) (h2 : 1 ≤ a1) : a0 = 1 := by omega
theorem oq_fcd95e52 {a0 a1 : Int} (h0 : a0 ≠ 0) (h1 : ((a0 = 1 ∧ (1 ≤ a1 ∧ a1 ≤ 8)) ∨ (a0 = 0 ∧ (a1 < 1 ∨ 8 < a1)))) : 1 ≤ a1 := by omega
theorem oq_7e545af9 {a0 a1 : Int} (h0 : a0 ≠ 0) (h1 : ((a0 = 1 ∧ (1 ≤ a1 ∧ a1 ≤ 8)) ∨ (a0 = 0 ∧ (a1 < 1 ∨ 8 < a1)))) : a1 ≤ 8 := by omega
theorem oq_2013374c {a0 a1 a2 a3 a4 a5 : Int} (h0 : a0 = a1) (h1 : a1 = a2) (h2 : a2 = a3) (h3 : a3 = a4) (h4 : a4 = a5) (h5 : 1 ≤ a5) (h6 : a5 = 1) : a0 = 1 := by omega
theorem oq_c5edd56f {a0 : Int} (h0 : a0 ≤ 8) : (a0 + 1) ≤ 9 := by omega
theorem oq_fa1cb672 {a0 : Int} (h0 : a0 ≤ 8) : 0 < (9 - a0) := by omega
/-! The model: rotas -/
def sx (s : PS) (px : va_W) : PS := (s.1, s.2.1, s.2.2.1, s.2.2.2.1, px)
def exW (d : ClassId) (l : List (Nat × Nat)) (fs : Nat → Nat → Int32) : va_W := l.zipIdx.map (fun x => (x.1.1, .inl (d, x.1.2, .inl (fs x.2))))
/-- behind X0 there are the rows l -/
def EXl (X0 : va_W) (d : ClassId) (l : List (Nat × Nat)) (t : PS) : Prop := ∃ fs : Nat → Nat → Int32, pX t = X0 ++ exW d l fs
def FmX (L M : List Nat) (s t : PS) : Prop := (∀ k, k ∉ L → gI t k = gI s k) ∧ (∀ a, a ∉ M → t.2.2.1 a = s.2.2.1 a) ∧ FL L M s t
theorem fx_I {L M : List Nat} {s t : PS} {k : Nat} {x : Int32} (h : FmX L M s t) (hk : k ∈ L) : FmX L M s (uI t k x) := by
  refine ⟨fun j hj => ?_, h.2.1, h.2.2⟩
  show (if j = k then x else t.1 j) = _
  rw [if_neg (fun q : j = k => hj (by rw [q]; exact hk))]; exact h.1 j hj
theorem fx_C {L M : List Nat} {s t : PS} {a i : Nat} {x : Int32} (h : FmX L M s t) (ha : a ∈ M) : FmX L M s (uC t a i x) := by
  refine ⟨h.1, fun b hb => ?_, h.2.2⟩
  show (if b = a then upd (t.2.2.1 a) i x else t.2.2.1 b) = _
  rw [if_neg (fun q : b = a => hb (by rw [q]; exact ha))]; exact h.2.1 b hb
theorem fx_ts {L M L' M' : List Nat} {s t u : PS} (h : FmX L M s t) (g : Fm L' M' t u) (h1 : ∀ k ∈ L', k ∈ L) (h2 : ∀ k ∈ M', k ∈ M) : FmX L M s u :=
  ⟨fun k hk => (g.1 k (fun q => hk (h1 k q))).trans (h.1 k hk), fun a ha => (g.2.1 a (fun q => ha (h2 a q))).trans (h.2.1 a ha), fl_ts h.2.2 g.2.2.2 h1 h2⟩
theorem fx_end {L M : List Nat} {s t : PS} (h : FmX L M s t) : Fm L M s (sx t (pX s)) := ⟨h.1, h.2.1, rfl, h.2.2⟩
theorem EX_fm {L M : List Nat} {X0 : va_W} {d : ClassId} {l : List (Nat × Nat)} {s t : PS} (F : Fm L M s t) (e : EXl X0 d l s) : EXl X0 d l t := by
  obtain ⟨fs, h⟩ := e
  exact ⟨fs, by rw [F.2.2.1, h]⟩
theorem exW_get {d : ClassId} {l : List (Nat × Nat)} {fs : Nat → Nat → Int32} {i q n : Nat} (h : l[i]? = some (q, n)) : (exW d l fs)[i]? = some (q, .inl (d, n, .inl (fs i))) := by
  unfold exW
  rw [List.getElem?_map, List.getElem?_zipIdx, h]
  show some ((q, n).1, _) = _
  rw [Nat.zero_add]
theorem exW_set {d : ClassId} {l : List (Nat × Nat)} {fs : Nat → Nat → Int32} {i q n : Nat} {f : Nat → Int32} (h : l[i]? = some (q, n)) : (exW d l fs).set i (q, .inl (d, n, .inl f)) = exW d l (fun j => if j = i then f else fs j) := by
  apply List.ext_getElem?
  intro j
  rw [List.getElem?_set]
  by_cases e : i = j
  · subst e
    have hl : i < (exW d l fs).length := (List.getElem?_eq_some_iff.mp (exW_get (d := d) (fs := fs) h)).1
    rw [if_pos rfl, if_pos hl, exW_get h, if_pos rfl]
  · rw [if_neg e]
    cases hj : l[j]? with
    | none =>
      have e1 : (exW d l fs)[j]? = none := by unfold exW; rw [List.getElem?_map, List.getElem?_zipIdx, hj]; rfl
      have e2 : (exW d l (fun j => if j = i then f else fs j))[j]? = none := by unfold exW; rw [List.getElem?_map, List.getElem?_zipIdx, hj]; rfl
      rw [e1, e2]
    | some y =>
      obtain ⟨q', n'⟩ := y
      rw [exW_get hj, exW_get hj, if_neg (Ne.symm e)]
section ZX2
variable {k : kx_T} {mn pc : Nat} {dT : Nat → ClassId} {lv : List (Nat × Value)} {st : List Value} {ws : va_W} {ce sl a b : Nat} {z : Int} {A : Nat → Nat} {s : PS} {X0 : va_W} {l : List (Nat × Nat)}
theorem ex_at {fs : Nat → Nat → Int32} (hf : pX s = X0 ++ exW (dT 0) l fs) {i q n : Nat} (hl : l[i]? = some (q, n)) : (Wd A dT s)[518 + X0.length + i]? = some (q, .inl (dT 0, n, .inl (fs i))) := by
  rw [Wd_ext (by omega), hf, List.getElem?_append_right (by omega), show 518 + X0.length + i - 518 - X0.length = i by omega]
  exact exW_get hl
theorem z_xald (X : AX k mn dT) (e : EXl X0 (dT 0) l s) (i : Nat) {q n : Nat} {j : Int} (hl : l[i]? = some (q, n)) (h : cdA mn pc = some (.iaload, 1, 0, 0, 0)) (h0 : 0 ≤ j) (hj : j < (n : Int)) (hn : n < 2147483648) (g : ∀ e, rng e → WS k (pc + 1) lv (.int (Int32.ofInt e) :: st) (Wd A dT s) ce sl) : WS k pc lv (.int (Int32.ofInt j) :: .ref q :: st) (Wd A dT s) ce sl := by
  obtain ⟨fs, hf⟩ := e
  rw [on_of h0]
  exact w_iald X.1 _ (ex_at hf hl) (X.2.2.1 0) (on_in (by omega) hn) (ax_d X h) (z_any g)
theorem z_xast (X : AX k mn dT) (e : EXl X0 (dT 0) l s) (i : Nat) {q n : Nat} {j x : Int} (hl : l[i]? = some (q, n)) (h : cdA mn pc = some (.iastore, 1, 0, 0, 0)) (h0 : 0 ≤ j) (hj : j < (n : Int)) (hn : n < 2147483648) (g : ∀ px, EXl X0 (dT 0) l (sx s px) → WS k (pc + 1) lv st (Wd A dT (sx s px)) ce sl) : WS k pc lv (.int (Int32.ofInt x) :: .int (Int32.ofInt j) :: .ref q :: st) (Wd A dT s) ce sl := by
  obtain ⟨fs, hf⟩ := e
  rw [on_of h0]
  refine w_iast X.1 _ (ex_at hf hl) (X.2.2.1 0) (on_in (by omega) hn) (ax_d X h) ?_
  have := g (X0 ++ exW (dT 0) l (fun j' => if j' = i then upd (fs i) (Int32.ofNat j.toNat).toNatClampNeg (Int32.ofInt x) else fs j')) ⟨_, rfl⟩
  rw [← exW_set hl] at this
  have e2 : Wd A dT (sx s (X0 ++ (exW (dT 0) l fs).set i (q, .inl (dT 0, n, .inl (upd (fs i) (Int32.ofNat j.toNat).toNatClampNeg (Int32.ofInt x)))))) = (Wd A dT s).set (518 + X0.length + i) (q, .inl (dT 0, n, .inl (upd (fs i) (Int32.ofNat j.toNat).toNatClampNeg (Int32.ofInt x)))) := by
    show cW (vS A s) dT bsS (518, []) ++ (X0 ++ _) = (cW (vS A s) dT bsS (518, []) ++ pX s).set _ _
    rw [hf, List.set_append_right _ _ (by rw [cW_518]; omega), cW_518, List.set_append_right _ _ (by omega), show 518 + X0.length + i - 518 - X0.length = i by omega]
  rw [e2] at this
  exact this
theorem z_newX (X : AX k mn dT) {n : Nat} (hn : n ≤ 1000) (h : cdA mn pc = some (.newarray .int, 2, a, b, z)) (h1 : ce + 1 ≤ (kR k).cells) (h2 : sl + n ≤ (kR k).slots) (g : ∀ q : Nat, WS k (pc + 2) lv (.ref q :: st) (Wd A dT (sx s (pX s ++ [(q, .inl (dT 0, n, .inl (fun _ => 0)))]))) (ce + 1) (sl + n)) : WS k pc lv (.int (Int32.ofInt (n : Int)) :: st) (Wd A dT s) ce sl := by
  have harr : Cond.arrayClass .int ∈ gT := by
    rcases (ax_r X h).2.2 with q | q | q
    · exact q.2.2
    · cases q.1
    · cases q.1
  obtain ⟨n1, n2⟩ := nat_of (z := (n : Int)) (by omega) (by omega)
  refine w_newa X.1 (N := n) (a0 := (n, .inl (fun _ => 0))) harr rfl (fun _ h => by cases h) (X.2.2.1 0) (vp_cell_i _ _ _) (fun c => vp_cell_i _ _ _) n1 (by rw [n2]; rfl) (by show n * 4 ≤ _; omega) h1 h2 (ax_d X h) (fun q => ?_)
  have := g q
  have e : Wd A dT (sx s (pX s ++ [(q, .inl (dT 0, n, .inl (fun _ => 0)))])) = Wd A dT s ++ [(q, .inl (dT 0, n, .inl (fun _ => 0)))] := by
    show cW (vS A s) dT bsS (518, []) ++ (pX s ++ _) = (cW (vS A s) dT bsS (518, []) ++ pX s) ++ _
    rw [List.append_assoc]
  rw [e] at this
  exact this
theorem WS_drop {e : va_W} (h : WS k pc lv st ws ce sl) : WS k pc lv st (ws ++ e) ce sl := fun H locs ls hP hD hS hl => by
  have sub : ∀ (i : Nat) (q : Nat × va_E), ws[i]? = some q → (ws ++ e)[i]? = some q := fun i q hi => by
    rw [List.getElem?_append_left (List.getElem?_eq_some_iff.mp hi).1]; exact hi
  exact h H locs ls (fun i q hi => hP i q (sub i q hi)) ⟨fun i j p q hi hj he => hD.1 i j p q (sub i p hi) (sub j q hj) he, fun i q hi => hD.2 i q (sub i q hi)⟩ hS hl
theorem ws_forget (e : EXl X0 (dT 0) l s) (h : WS k pc lv st (Wd A dT (sx s X0)) ce sl) : WS k pc lv st (Wd A dT s) ce sl := by
  obtain ⟨fs, hf⟩ := e
  have e2 : Wd A dT s = Wd A dT (sx s X0) ++ exW (dT 0) l fs := by
    show cW (vS A s) dT bsS (518, []) ++ pX s = (cW (vS A s) dT bsS (518, []) ++ X0) ++ _
    rw [hf, List.append_assoc]
  rw [e2]
  exact WS_drop h
end ZX2
section M60
variable {l : Launch} {s0 : State} {D : va_G} {tys : List (ClassId × FieldType)} {a0 : Array Value} {A : Nat → Nat} {dT : Nat → ClassId} {s : PS}
end M60
