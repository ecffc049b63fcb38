theorem oq_1331527b {a0 a1 a2 : Int} (h0 : a0 ≤ a1) (h1 : a1 ≤ a2) (h2 : a2 ≤ 12) : a0 ≤ 12 := by omega
theorem oq_0f0129f0 {a0 a1 : Int} (h0 : a0 = a1) (h1 : a1 ≤ 11) : a0 ≤ 2147483647 := by omega
theorem oq_baafdcc9 {a0 a1 : Int} (h0 : a0 = a1) (h1 : a1 ≤ 23) : a0 ≤ 23 := by omega
theorem oq_9b864930 {a0 a1 a2 : Int} (h0 : a0 < a1) (h1 : a1 < a2) : (a0 + 1) ≤ a2 := by omega
theorem oq_ad8fc57c {a0 a1 : Int} (h0 : (a0 = 0 ∨ a0 = 1)) (h1 : a1 = a0) : (-2147483648) ≤ a1 := by omega
theorem oq_918d59e7 {a0 a1 : Int} (h0 : (a0 = 0 ∨ a0 = 1)) (h1 : a1 = a0) : a1 ≤ 2147483647 := by omega
theorem oq_787d67b8 {a0 a1 a2 a3 a4 : Int} (h0 : a0 = 0) (h1 : ((1 = 1 ∧ (a1 = 0 ∧ (a2 = 1 ∧ a0 = 1))) ∨ ((1 = 0 ∨ a1 ≠ 0) ∧ (a2 = a1 ∧ ((a0 = 0 ∧ a1 = 0) ∨ (a0 = 1 ∧ a1 ≠ 0)))))) (h2 : a1 = 0) : ((0 ≤ a3 ∧ a3 ≤ 7) ∧ (0 ≤ a4 ∧ a4 ≤ 23)) := by omega
theorem oq_e19d9c5d {a0 a1 a2 a3 : Int} (h0 : a0 = 0) (h1 : ((1 = 1 ∧ (a1 = 0 ∧ (a2 = 1 ∧ a0 = 1))) ∨ ((1 = 0 ∨ a1 ≠ 0) ∧ (a2 = a1 ∧ ((a0 = 0 ∧ a1 = 0) ∨ (a0 = 1 ∧ a1 ≠ 0)))))) (h2 : a1 = 0) : a3 = 0 := by omega
theorem oq_f2ff104a {a0 a1 a2 a3 : Int} (h0 : a0 = 0) (h1 : ((1 = 1 ∧ (a1 = 0 ∧ (a2 = 1 ∧ a0 = 1))) ∨ ((1 = 0 ∨ a1 ≠ 0) ∧ (a2 = a1 ∧ ((a0 = 0 ∧ a1 = 0) ∨ (a0 = 1 ∧ a1 ≠ 0)))))) (h2 : a1 = 0) : a3 = 1 := by omega
theorem oq_bbd5784d {a0 a1 a2 a3 a4 : Int} (h0 : a0 = 0) (h1 : ((1 = 1 ∧ (a1 = 0 ∧ (a2 = 1 ∧ a0 = 1))) ∨ ((1 = 0 ∨ a1 ≠ 0) ∧ (a2 = a1 ∧ ((a0 = 0 ∧ a1 = 0) ∨ (a0 = 1 ∧ a1 ≠ 0)))))) (h2 : a1 = 0) : a3 = a4 := by omega
theorem oq_196d10b5 {a0 a1 a2 a3 : Int} (h0 : a0 = 0) (h1 : ((1 = 1 ∧ (a1 = 0 ∧ (a2 = 1 ∧ a0 = 1))) ∨ ((1 = 0 ∨ a1 ≠ 0) ∧ (a2 = a1 ∧ ((a0 = 0 ∧ a1 = 0) ∨ (a0 = 1 ∧ a1 ≠ 0)))))) (h2 : a1 = 0) : ((-2147483648) ≤ a3 ∧ a3 ≤ 2147483647) := by omega
/-! Rows that a method makes for itself: what they hold -/
/-- what stands at the j-th place of the m-th further row -/
def xF (t : PS) (m j : Nat) : Int32 := match (pX t)[m]? with
  | some (_, .inl (_, _, .inl f)) => f j
  | _ => 0
abbrev xV (m : Nat) (t : PS) (j : Nat) : Int := (xF t m j).toInt
theorem xF_at {X0 : va_W} {d : ClassId} {l : List (Nat × Nat)} {fs : Nat → Nat → Int32} {t : PS} (hf : pX t = X0 ++ exW d l fs) {i q n : Nat} (hl : l[i]? = some (q, n)) (j : Nat) : xF t (X0.length + i) j = fs i j := by
  unfold xF
  rw [hf, List.getElem?_append_right (by omega), show X0.length + i - X0.length = i by omega, exW_get hl]
theorem xF_fm {L M : List Nat} {s t : PS} {m j : Nat} (F : Fm L M s t) : xF t m j = xF s m j := by
  unfold xF
  rw [F.2.2.1]
section ZXE
variable {k : kx_T} {mn pc : Nat} {dT : Nat → ClassId} {lv : List (Nat × Value)} {st : List Value} {ce sl : Nat} {A : Nat → Nat} {s : PS} {X0 : va_W} {l : List (Nat × Nat)}
theorem z_xaldE (X : AX k mn dT) (e : EXl X0 (dT 0) l s) (i : Nat) {q n : Nat} {j : Int} (hl : l[i]? = some (q, n)) (h : cdA mn pc = some (.iaload, 1, 0, 0, 0)) (h0 : 0 ≤ j) (hj : j < (n : Int)) (hn : n < 2147483648) (g : WS k (pc + 1) lv (.int (Int32.ofInt (xV (X0.length + i) s j.toNat)) :: st) (Wd A dT s) ce sl) : WS k pc lv (.int (Int32.ofInt j) :: .ref q :: st) (Wd A dT s) ce sl := by
  obtain ⟨fs, hf⟩ := e
  have e2 : xV (X0.length + i) s j.toNat = (fs i j.toNat).toInt := congrArg Int32.toInt (xF_at hf hl _)
  rw [e2, ofi_to] at g
  rw [on_of h0]
  refine w_iald X.1 _ (ex_at hf hl) (X.2.2.1 0) (on_in (by omega) hn) (ax_d X h) ?_
  rw [on_cl (by omega)]
  exact g
theorem z_xastE (X : AX k mn dT) (e : EXl X0 (dT 0) l s) (i : Nat) {q n : Nat} {j x : Int} (hl : l[i]? = some (q, n)) (h : cdA mn pc = some (.iastore, 1, 0, 0, 0)) (h0 : 0 ≤ j) (hj : j < (n : Int)) (hn : n < 2147483648) (g : ∀ px, EXl X0 (dT 0) l (sx s px) → (∀ i' j' : Nat, i' < l.length → xF (sx s px) (X0.length + i') j' = if i' = i ∧ j' = j.toNat then Int32.ofInt x else xF s (X0.length + i') j') → WS k (pc + 1) lv st (Wd A dT (sx s px)) ce sl) : WS k pc lv (.int (Int32.ofInt x) :: .int (Int32.ofInt j) :: .ref q :: st) (Wd A dT s) ce sl := by
  obtain ⟨fs, hf⟩ := e
  rw [on_of h0]
  refine w_iast X.1 _ (ex_at hf hl) (X.2.2.1 0) (on_in (by omega) hn) (ax_d X h) ?_
  have := g (X0 ++ exW (dT 0) l (fun j' => if j' = i then upd (fs i) (Int32.ofNat j.toNat).toNatClampNeg (Int32.ofInt x) else fs j')) ⟨_, rfl⟩ (fun i' j' hi' => by
    have hl' : l[i']? = some (l[i'].1, l[i'].2) := List.getElem?_eq_getElem hi'
    rw [xF_at (t := sx s _) (X0 := X0) (d := dT 0) (l := l) rfl hl', xF_at hf hl', on_cl (by omega)]
    by_cases c : i' = i
    · subst c
      show (if i' = i' then upd (fs i') j.toNat (Int32.ofInt x) else fs i') j' = _
      rw [if_pos rfl]
      unfold upd
      by_cases z : j' = j.toNat
      · rw [if_pos z, if_pos ⟨rfl, z⟩]
      · rw [if_neg z, if_neg (fun w => z w.2)]
    · show (if i' = i then upd (fs i) j.toNat (Int32.ofInt x) else fs i') j' = _
      rw [if_neg c, if_neg (fun w => c w.1)])
  rw [← exW_set hl] at this
  have e2 : Wd A dT (sx s (X0 ++ (exW (dT 0) l fs).set i (q, .inl (dT 0, n, .inl (upd (fs i) (Int32.ofNat j.toNat).toNatClampNeg (Int32.ofInt x)))))) = (Wd A dT s).set (518 + X0.length + i) (q, .inl (dT 0, n, .inl (upd (fs i) (Int32.ofNat j.toNat).toNatClampNeg (Int32.ofInt x)))) := by
    show cW (vS A s) dT bsS (518, []) ++ (X0 ++ _) = (cW (vS A s) dT bsS (518, []) ++ pX s).set _ _
    rw [hf, List.set_append_right _ _ (by rw [cW_518]; omega), cW_518, List.set_append_right _ _ (by omega), show 518 + X0.length + i - 518 - X0.length = i by omega]
  rw [e2] at this
  exact this
end ZXE
/-! To which streams a load is led -/
theorem smd {g : Nat → Int} {m m' c : Int} (h : m = sm g c.toNat) (c0 : 0 ≤ c) (hm : m' = m + g c.toNat) : m' = sm g (c + 1).toNat := by
  rw [show (c + 1).toNat = c.toNat + 1 by omega]
  show m' = sm g c.toNat + g c.toNat
  rw [hm, h]
/-- the part of a stream in a load -/
noncomputable def ptL (U : AirD) (S : Int → Prop) (pc : Int) (q x : Nat) : Int := (ldH U S pc q (-1) - ldH U S pc q (x : Int)).toInt
theorem ptl_of {U : AirD} {S : Int → Prop} {pc ld e v c : Int} {q : Nat} (h1 : Int32.ofInt ld = ldH U S pc q (-1)) (h2 : Int32.ofInt e = ldH U S pc q c) (hv : Int32.ofInt v = Int32.ofInt (ld - e)) (hr : rng v) (c0 : 0 ≤ c) : v = ptL U S pc q c.toNat := by
  unfold ptL
  rw [show ((c.toNat : Nat) : Int) = c by omega, ← h1, ← h2, ← Int32.ofInt_sub, ← hv, zi hr]
/-- who stands ahead of x, and how many -/
def ahP (v : Nat → Int) (x s : Nat) : Prop := v s ≠ 0 ∧ (v x < v s ∨ (v s = v x ∧ s < x))
noncomputable def ahN (v : Nat → Int) (n x : Nat) : Int := sm (fun s => i01 (ahP v x s)) n
theorem ahn_c {v w : Nat → Int} {n x : Nat} (h : ∀ j, j < n → v j = w j) (hx : x < n) : ahN v n x = ahN w n x := sm_eq (fun s hs => by
  unfold ahP
  rw [h s hs, h x hx])
def LDQ (v : Nat → Int) (n : Nat) (k c : Int) : Prop := ∀ x : Nat, (x : Int) < c → ¬ (v x ≠ 0 ∧ ahN v n x = k)
theorem ldq_0 {v : Nat → Int} {n : Nat} {k : Int} : LDQ v n k 0 := fun x hx => by omega
theorem ldq_up {v : Nat → Int} {n : Nat} {k c : Int} (h : LDQ v n k c) (c0 : 0 ≤ c) (hn : v c.toNat = 0 ∨ ahN v n c.toNat ≠ k) : LDQ v n k (c + 1) := fun x hx q => by
  by_cases z : x = c.toNat
  · rw [z] at q
    rcases hn with y | y
    · exact q.1 y
    · exact y q.2
  · exact h x (by omega) q
def LDE (v : Nat → Int) (n : Nat) (k w e : Int) : Prop := (∃ x : Nat, x < n ∧ v x ≠ 0 ∧ ahN v n x = k ∧ LDQ v n k x ∧ ((w ≠ 0 ∧ e = v x) ∨ (w = 0 ∧ e = (x : Int)))) ∨ (LDQ v n k n ∧ e = -1)
theorem lde_un {v : Nat → Int} {n : Nat} {k w e e' : Int} (a : LDE v n k w e) (b : LDE v n k w e') : e = e' := by
  rcases a with ⟨x, x1, x2, x3, x4, x5⟩ | ⟨a1, a2⟩
  · rcases b with ⟨y, y1, y2, y3, y4, y5⟩ | ⟨b1, b2⟩
    · have h1 : ¬ y < x := fun z => x4 y (by omega) ⟨y2, y3⟩
      have h2 : ¬ x < y := fun z => y4 x (by omega) ⟨x2, x3⟩
      have e : x = y := by omega
      subst e
      clear x4 y4 x3 y3
      omega
    · exact absurd ⟨x2, x3⟩ (b1 x (by omega))
  · rcases b with ⟨y, y1, y2, y3, y4, y5⟩ | ⟨b1, b2⟩
    · exact absurd ⟨y2, y3⟩ (a1 y (by omega))
    · omega
theorem lde_eq {U : AirD} {f f' : Nat → Int} {p k w e e' : Int} {q n : Nat} (h : ∀ j, j < 128 → f j = f' j) (a : LDE (ptL U (pcS f p) 1 q) n k w e) (b : LDE (ptL U (pcS f' p) 1 q) n k w e') : e = e' := by
  rw [← pcs_c h p] at b
  exact lde_un a b
theorem lde_eqw {U : AirD} {f f' : Nat → Int} {p k w w' e e' : Int} {q n : Nat} (h : ∀ j, j < 128 → f j = f' j) (a : LDE (ptL U (pcS f p) 1 q) n k w e) (b : LDE (ptL U (pcS f' p) 1 q) n k w' e') (hw : w = w') : e = e' := lde_eq h a (hw ▸ b)
/-- the class's row of parts -/
def PLQ (f : Nat → Int) (c : Int) (t : PS) : Prop := ∀ j : Nat, (j : Int) < c → iC t 34 j = f j
theorem plq_0 {f : Nat → Int} {t : PS} : PLQ f 0 t := fun j hj => by omega
theorem plq_up {f : Nat → Int} {c v : Int} {t u : PS} (h : PLQ f c t) (hu : UPD 34 c v t u) (c0 : 0 ≤ c) (hv : v = f c.toNat) : PLQ f (c + 1) u := fun j hj => by
  by_cases z : j = c.toNat
  · rw [z, hu.1, hv]
  · rw [hu.2 j z]; exact h j (by omega)
theorem plq_s {f : Nat → Int} {c : Int} {t u : PS} (h : PLQ f c t) (g : SAM 34 t u) : PLQ f c u := fun j hj => (g j).trans (h j hj)
/-- the class's answer: a stream, or none -/
def LDX (f : Nat → Int) (n k e : Int) : Prop := (0 ≤ e ∧ e < n ∧ f e.toNat ≠ 0 ∧ ahN f n.toNat e.toNat = k ∧ LDQ f n.toNat k e) ∨ (e = -1 ∧ LDQ f n.toNat k n)
theorem ins_s {t u : PS} (h : SAM 230 t u) : inS u = inS t := funext (fun x => propext (by unfold inS; rw [h]))
theorem ldx_n {f : Nat → Int} {n k e : Int} (h : LDX f n k e) : e < n ∨ e = -1 := h.elim (fun z => Or.inl z.2.1) (fun z => Or.inr z.1)
theorem ldx_c {f : Nat → Int} {n k e : Int} (h : LDX f n k e) (n0 : 0 ≤ n ∧ n ≤ 12) : -1 ≤ e ∧ e ≤ 11 := by
  rcases h with h | h <;> omega
theorem ldx_e {f : Nat → Int} {n k e w r : Int} {N : Nat} (h : LDX f n k e) (hN : n = (N : Int)) (hr : (e = -1 ∧ r = -1) ∨ (0 ≤ e ∧ ((w = 0 ∧ r = e) ∨ (w ≠ 0 ∧ r = f e.toNat)))) : LDE f N k w r := by
  subst hN
  have eN : ((N : Int)).toNat = N := by omega
  unfold LDX at h
  rw [eN] at h
  rcases h with ⟨h1, h2, h3, h4, h5⟩ | ⟨h1, h2⟩
  · refine Or.inl ⟨e.toNat, by omega, h3, h4, by rw [show ((e.toNat : Nat) : Int) = e by omega]; exact h5, ?_⟩
    clear h3 h4 h5
    omega
  · exact Or.inr ⟨h2, by omega⟩
/-- the model's row of parts -/
def PXQ (f : Nat → Int) (m : Nat) (c : Int) (t : PS) : Prop := ∀ j : Nat, (j : Int) < c → xV m t j = f j
theorem pxq_0 {f : Nat → Int} {m : Nat} {t : PS} : PXQ f m 0 t := fun j hj => by omega
theorem pxq_up {f : Nat → Int} {m : Nat} {c v : Int} {t u : PS} (h : PXQ f m c t) (hu : ∀ j : Nat, xF u m j = if j = c.toNat then Int32.ofInt v else xF t m j) (c0 : 0 ≤ c) (hr : rng v) (hv : v = f c.toNat) : PXQ f m (c + 1) u := fun j hj => by
  show (xF u m j).toInt = f j
  rw [hu]
  by_cases z : j = c.toNat
  · rw [if_pos z, zi hr, z, hv]
  · rw [if_neg z]; exact h j (by omega)
/-- a stream's most set to nothing, and back -/
theorem nmq_0 {U : AirD} {q : Nat} {n a : Int} {t u : PS} (h : NMQ (uM U q) n t) (hu : UPD 203 a 0 t u) (a0 : 0 ≤ a) : NMQ (moW U q a) n u := fun x hx => by
  show iC u 203 x = if (x : Int) = a then 0 else uM U q x
  by_cases z : x = a.toNat
  · rw [z, hu.1, if_pos (by omega)]
  · rw [hu.2 x z, if_neg (by omega)]; exact h x hx
theorem nmq_b {U : AirD} {q : Nat} {n a v : Int} {t u w : PS} (h : NMQ (uM U q) n t) (hu : UPD 203 a 0 t u) (hw : UPD 203 a v u w) (hv : v = iC t 203 a.toNat) : NMQ (uM U q) n w := fun x hx => by
  by_cases z : x = a.toNat
  · rw [z, hw.1, hv, ← z]; exact h x hx
  · rw [hw.2 x z, hu.2 x z]; exact h x hx
section M87ki
variable {l : Launch} {s0 : State} {D : va_G} {tys : List (ClassId × FieldType)} {a0 : Array Value} {A : Nat → Nat} {dT : Nat → ClassId} {s : PS}
set_option maxRecDepth 4000 in
theorem c0_ahead6 (G : GX l s0 D tys a0 dT) (I : Bd s) {x : Int} (p0 : 0 ≤ x ∧ x ≤ 11) : CT l s0 D A dT 9 (rmN 9) [.ref (A 31), .int (Int32.ofInt x)] s (fun o t => Bd t ∧ Fm [] [] s t ∧ ∃ e, o = .inl (some (.int (Int32.ofInt e))) ∧ rng e ∧ (e = ahN (fun j => iC s 34 j) (iI s 9).toNat (x : Int).toNat)) := by
  refine ct_ofX G (by decide) (Nat.le_of_ble_eq_true rfl) (fun k X E ET hRt hXt q => ?_)
  show WS k 0 [(0, .ref (A 31)), (1, .int (Int32.ofInt x))] [] _ 0 0
  have F : Fm [] [] s s := fm_rf _ _ s
  have b1 := bi_9 I
  have L4 : ∀ (n : Nat) (t : PS) (xv ah c : Int), Bd t → Fm [] [] s t → (ah = sm (fun s' => i01 (ahP (fun j => iC s 34 j) (x : Int).toNat s')) (c : Int).toNat) → ((xv = x ∧ 0 ≤ x ∧ x ≤ 11) ∧ (0 ≤ ah ∧ ah ≤ c) ∧ c ≤ iI s 9 ∧ iI t 9 = iI s 9) → (12 - c : Int).toNat < n → (∀ (t' : PS) (ah' c' : Int), Bd t' → Fm [] [] s t' → (ah' = sm (fun s' => i01 (ahP (fun j => iC s 34 j) (x : Int).toNat s')) (c' : Int).toNat) → ((0 ≤ ah' ∧ ah' ≤ 12) ∧ c' = iI s 9) → WS k 68 [(0, .ref (A 31)), (1, .int (Int32.ofInt xv)), (2, .int (Int32.ofInt ah')), (3, .int (Int32.ofInt c'))] [] (Wd A dT t') 0 0) → WS k 4 [(0, .ref (A 31)), (1, .int (Int32.ofInt xv)), (2, .int (Int32.ofInt ah)), (3, .int (Int32.ofInt c))] [] (Wd A dT t) 0 0 := by
    intro n
    induction n with
    | zero =>
      intro t xv ah c I F hq hi hm kx
      exact absurd hm (Nat.not_lt_zero _)
    | succ n ih =>
      intro t xv ah c I F hq hi hm kx
      have b1001 := bi_9 I
      refine z_load_n X (x := c) rfl (List.Mem.tail _ (List.Mem.tail _ (List.Mem.tail _ (List.Mem.head _)))) (z_aload_n X (x := A 31) rfl (List.Mem.head _) (s_getR X 31 rfl (c518_ok rfl) rfl rfl (z_getI X 3 rfl (c518_ok rfl) rfl rfl ?_)))
      have b1002 := bi_9 I
      refine z_icmp_ge X (t := 68) rfl rfl ⟨by first | exact oq_e001bc0d hi.2.1.2 hi.2.1.1 | omega, by first | exact oq_39d2cc6e hi.2.2.1 b1.2 | omega⟩ (rng_to _) (fun g1003 => ?_) (fun g1003 => ?_)
      ·
        refine WS_pq [0, 1, 2, 3] (lv' := [(0, .ref (A 31)), (1, .int (Int32.ofInt xv)), (2, .int (Int32.ofInt ah)), (3, .int (Int32.ofInt c))]) rfl ?_
        exact kx _ ah c I F hq (by first | exact ⟨And.intro (hi.2.1.1) (oq_1331527b hi.2.1.2 hi.2.2.1 b1.2), oq_537ca82a hi.2.2.1 g1003 hi.2.2.2⟩ | omega)
      ·
        have z1 : iC t 34 (c : Int).toNat = iC s 34 (c : Int).toNat := fm_c F List.not_mem_nil
        have z2 : iC t 34 (xv : Int).toNat = iC s 34 (x : Int).toNat := by rw [show xv = x by omega]; exact fm_c F List.not_mem_nil
        refine z_aload_n X (x := A 31) rfl (List.Mem.head _) (s_getR X 31 rfl (c518_ok rfl) rfl rfl (z_load_n X (x := c) rfl (List.Mem.tail _ (List.Mem.tail _ (List.Mem.tail _ (List.Mem.head _)))) (z_ald X 40 rfl (c518_ok rfl) rfl (by first | exact oq_12a1f9e1 hi.2.1.2 hi.2.1.1 | omega) (show c < 12 by first | exact oq_f36e82a8 g1003 b1002.2 | omega) (cbig_ok rfl) ?_)))
        have b1004 := bc_34 I (show (c).toNat < 12 by first | exact oq_2dac6850 g1003 b1002.2 | omega)
        refine z_if_eq X (t := 62) rfl rfl (rng_to _) (fun g1005 => ?_) (fun g1005 => ?_)
        ·
          refine z_inc X (x := c) (lv' := [(3, .int (Int32.ofInt (c + 1))), (0, .ref (A 31)), (1, .int (Int32.ofInt xv)), (2, .int (Int32.ofInt ah))]) rfl (by decide) (List.Mem.tail _ (List.Mem.tail _ (List.Mem.tail _ (List.Mem.head _)))) (fun _ h => h) (z_goto X (t := 4) rfl rfl (WS_pq [1, 2, 3, 0] (lv' := [(0, .ref (A 31)), (1, .int (Int32.ofInt xv)), (2, .int (Int32.ofInt ah)), (3, .int (Int32.ofInt (c + 1)))]) rfl ?_))
          exact ih _ xv ah (c + 1) I F (smd hq (by omega) (by show _ = _ + i01 (ahP (fun j => iC s 34 j) (x : Int).toNat (c : Int).toNat); rw [i01_f (fun q => by replace q : iC s 34 (c : Int).toNat ≠ 0 ∧ (iC s 34 (x : Int).toNat < iC s 34 (c : Int).toNat ∨ (iC s 34 (c : Int).toNat = iC s 34 (x : Int).toNat ∧ (c : Int).toNat < (x : Int).toNat)) := q; omega)]; omega)) (by first | exact ⟨And.intro (hi.1.1) (And.intro (hi.1.2.1) (hi.1.2.2)), And.intro (hi.2.1.1) (oq_03182e9e hi.2.1.2), oq_8a89b3ae g1003 hi.2.2.2, hi.2.2.2⟩ | omega) (by first | exact qk_me hm (by decide) (oq_b575e8c1 g1003 b1002.2) | omega) kx
        ·
          refine z_aload_n X (x := A 31) rfl (List.Mem.head _) (s_getR X 31 rfl (c518_ok rfl) rfl rfl (z_load_n X (x := c) rfl (List.Mem.tail _ (List.Mem.tail _ (List.Mem.tail _ (List.Mem.head _)))) (z_ald X 40 rfl (c518_ok rfl) rfl (by first | exact oq_12a1f9e1 hi.2.1.2 hi.2.1.1 | omega) (show c < 12 by first | exact oq_f36e82a8 g1003 b1002.2 | omega) (cbig_ok rfl) ?_)))
          have b1006 := bc_34 I (show (c).toNat < 12 by first | exact oq_2dac6850 g1003 b1002.2 | omega)
          refine z_aload_n X (x := A 31) rfl (List.Mem.head _) (s_getR X 31 rfl (c518_ok rfl) rfl rfl (z_load_n X (x := xv) rfl (List.Mem.tail _ (List.Mem.head _)) (z_ald X 40 rfl (c518_ok rfl) rfl (by first | exact oq_e4757433 hi.1.1 hi.1.2.1 | omega) (show xv < 12 by first | exact oq_210fcd76 hi.1.1 hi.1.2.2 | omega) (cbig_ok rfl) ?_)))
          have b1007 := bc_34 I (show (xv).toNat < 12 by first | exact oq_cba5df33 hi.1.1 hi.1.2.2 | omega)
          refine z_icmp_gt X (t := 59) rfl rfl (rng_to _) (rng_to _) (fun g1008 => ?_) (fun g1008 => ?_)
          ·
            refine z_inc X (x := ah) (lv' := [(2, .int (Int32.ofInt (ah + 1))), (0, .ref (A 31)), (1, .int (Int32.ofInt xv)), (3, .int (Int32.ofInt c))]) rfl (by decide) (List.Mem.tail _ (List.Mem.tail _ (List.Mem.head _))) (fun _ h => h) (z_inc X (x := c) (lv' := [(3, .int (Int32.ofInt (c + 1))), (2, .int (Int32.ofInt (ah + 1))), (0, .ref (A 31)), (1, .int (Int32.ofInt xv))]) rfl (by decide) (List.Mem.tail _ (List.Mem.tail _ (List.Mem.tail _ (List.Mem.head _)))) (fun _ h => h) (z_goto X (t := 4) rfl rfl (WS_pq [2, 3, 1, 0] (lv' := [(0, .ref (A 31)), (1, .int (Int32.ofInt xv)), (2, .int (Int32.ofInt (ah + 1))), (3, .int (Int32.ofInt (c + 1)))]) rfl ?_)))
            exact ih _ xv (ah + 1) (c + 1) I F (smd hq (by first | (clear g1005; omega) | omega) (by show _ = _ + i01 (ahP (fun j => iC s 34 j) (x : Int).toNat (c : Int).toNat); rw [i01_t (show ahP (fun j => iC s 34 j) (x : Int).toNat (c : Int).toNat from (show iC s 34 (c : Int).toNat ≠ 0 ∧ (iC s 34 (x : Int).toNat < iC s 34 (c : Int).toNat ∨ (iC s 34 (c : Int).toNat = iC s 34 (x : Int).toNat ∧ (c : Int).toNat < (x : Int).toNat)) by first | (clear g1005; omega) | omega))])) (by first | exact ⟨And.intro (hi.1.1) (And.intro (hi.1.2.1) (hi.1.2.2)), And.intro (oq_54f49eb5 hi.2.1.1) (oq_8d48a029 hi.2.1.2), oq_8a89b3ae g1003 hi.2.2.2, hi.2.2.2⟩ | omega) (by first | exact qk_me hm (by decide) (oq_b575e8c1 g1003 b1002.2) | omega) kx
          ·
            refine z_aload_n X (x := A 31) rfl (List.Mem.head _) (s_getR X 31 rfl (c518_ok rfl) rfl rfl (z_load_n X (x := c) rfl (List.Mem.tail _ (List.Mem.tail _ (List.Mem.tail _ (List.Mem.head _)))) (z_ald X 40 rfl (c518_ok rfl) rfl (by first | exact oq_12a1f9e1 hi.2.1.2 hi.2.1.1 | omega) (show c < 12 by first | exact oq_f36e82a8 g1003 b1002.2 | omega) (cbig_ok rfl) ?_)))
            have b1009 := bc_34 I (show (c).toNat < 12 by first | exact oq_2dac6850 g1003 b1002.2 | omega)
            refine z_aload_n X (x := A 31) rfl (List.Mem.head _) (s_getR X 31 rfl (c518_ok rfl) rfl rfl (z_load_n X (x := xv) rfl (List.Mem.tail _ (List.Mem.head _)) (z_ald X 40 rfl (c518_ok rfl) rfl (by first | exact oq_e4757433 hi.1.1 hi.1.2.1 | omega) (show xv < 12 by first | exact oq_210fcd76 hi.1.1 hi.1.2.2 | omega) (cbig_ok rfl) ?_)))
            have b1010 := bc_34 I (show (xv).toNat < 12 by first | exact oq_cba5df33 hi.1.1 hi.1.2.2 | omega)
            refine z_icmp_ne X (t := 62) rfl rfl (rng_to _) (rng_to _) (fun g1011 => ?_) (fun g1011 => ?_)
            ·
              refine z_inc X (x := c) (lv' := [(3, .int (Int32.ofInt (c + 1))), (0, .ref (A 31)), (1, .int (Int32.ofInt xv)), (2, .int (Int32.ofInt ah))]) rfl (by decide) (List.Mem.tail _ (List.Mem.tail _ (List.Mem.tail _ (List.Mem.head _)))) (fun _ h => h) (z_goto X (t := 4) rfl rfl (WS_pq [1, 2, 3, 0] (lv' := [(0, .ref (A 31)), (1, .int (Int32.ofInt xv)), (2, .int (Int32.ofInt ah)), (3, .int (Int32.ofInt (c + 1)))]) rfl ?_))
              exact ih _ xv ah (c + 1) I F (smd hq (by first | (clear g1011 g1005; omega) | (clear g1005; omega) | omega) (by show _ = _ + i01 (ahP (fun j => iC s 34 j) (x : Int).toNat (c : Int).toNat); rw [i01_f (fun q => by replace q : iC s 34 (c : Int).toNat ≠ 0 ∧ (iC s 34 (x : Int).toNat < iC s 34 (c : Int).toNat ∨ (iC s 34 (c : Int).toNat = iC s 34 (x : Int).toNat ∧ (c : Int).toNat < (x : Int).toNat)) := q; omega)]; omega)) (by first | exact ⟨And.intro (hi.1.1) (And.intro (hi.1.2.1) (hi.1.2.2)), And.intro (hi.2.1.1) (oq_03182e9e hi.2.1.2), oq_8a89b3ae g1003 hi.2.2.2, hi.2.2.2⟩ | omega) (by first | exact qk_me hm (by decide) (oq_b575e8c1 g1003 b1002.2) | omega) kx
            ·
              refine z_load_n X (x := c) rfl (List.Mem.tail _ (List.Mem.tail _ (List.Mem.tail _ (List.Mem.head _)))) (z_load_n X (x := xv) rfl (List.Mem.tail _ (List.Mem.head _)) (z_icmp_ge X (t := 62) rfl rfl ⟨by first | exact oq_e001bc0d hi.2.1.2 hi.2.1.1 | omega, by first | exact oq_8be37138 g1003 b1002.2 | omega⟩ ⟨by first | exact oq_b3df2c6f hi.1.1 hi.1.2.1 | omega, by first | exact oq_0f0129f0 hi.1.1 hi.1.2.2 | omega⟩ (fun g1012 => ?_) (fun g1012 => ?_)))
              ·
                refine z_inc X (x := c) (lv' := [(3, .int (Int32.ofInt (c + 1))), (0, .ref (A 31)), (1, .int (Int32.ofInt xv)), (2, .int (Int32.ofInt ah))]) rfl (by decide) (List.Mem.tail _ (List.Mem.tail _ (List.Mem.tail _ (List.Mem.head _)))) (fun _ h => h) (z_goto X (t := 4) rfl rfl (WS_pq [1, 2, 3, 0] (lv' := [(0, .ref (A 31)), (1, .int (Int32.ofInt xv)), (2, .int (Int32.ofInt ah)), (3, .int (Int32.ofInt (c + 1)))]) rfl ?_))
                exact ih _ xv ah (c + 1) I F (smd hq (by first | (clear g1005; omega) | omega) (by show _ = _ + i01 (ahP (fun j => iC s 34 j) (x : Int).toNat (c : Int).toNat); rw [i01_f (fun q => by replace q : iC s 34 (c : Int).toNat ≠ 0 ∧ (iC s 34 (x : Int).toNat < iC s 34 (c : Int).toNat ∨ (iC s 34 (c : Int).toNat = iC s 34 (x : Int).toNat ∧ (c : Int).toNat < (x : Int).toNat)) := q; omega)]; omega)) (by first | exact ⟨And.intro (hi.1.1) (And.intro (hi.1.2.1) (hi.1.2.2)), And.intro (hi.2.1.1) (oq_03182e9e hi.2.1.2), oq_8a89b3ae g1003 hi.2.2.2, hi.2.2.2⟩ | omega) (by first | exact qk_me hm (by decide) (oq_b575e8c1 g1003 b1002.2) | omega) kx
              ·
                refine z_inc X (x := ah) (lv' := [(2, .int (Int32.ofInt (ah + 1))), (0, .ref (A 31)), (1, .int (Int32.ofInt xv)), (3, .int (Int32.ofInt c))]) rfl (by decide) (List.Mem.tail _ (List.Mem.tail _ (List.Mem.head _))) (fun _ h => h) (z_inc X (x := c) (lv' := [(3, .int (Int32.ofInt (c + 1))), (2, .int (Int32.ofInt (ah + 1))), (0, .ref (A 31)), (1, .int (Int32.ofInt xv))]) rfl (by decide) (List.Mem.tail _ (List.Mem.tail _ (List.Mem.tail _ (List.Mem.head _)))) (fun _ h => h) (z_goto X (t := 4) rfl rfl (WS_pq [2, 3, 1, 0] (lv' := [(0, .ref (A 31)), (1, .int (Int32.ofInt xv)), (2, .int (Int32.ofInt (ah + 1))), (3, .int (Int32.ofInt (c + 1)))]) rfl ?_)))
                exact ih _ xv (ah + 1) (c + 1) I F (smd hq (by first | (clear g1005; omega) | omega) (by show _ = _ + i01 (ahP (fun j => iC s 34 j) (x : Int).toNat (c : Int).toNat); rw [i01_t (show ahP (fun j => iC s 34 j) (x : Int).toNat (c : Int).toNat from (show iC s 34 (c : Int).toNat ≠ 0 ∧ (iC s 34 (x : Int).toNat < iC s 34 (c : Int).toNat ∨ (iC s 34 (c : Int).toNat = iC s 34 (x : Int).toNat ∧ (c : Int).toNat < (x : Int).toNat)) by first | (clear g1005; omega) | omega))])) (by first | exact ⟨And.intro (hi.1.1) (And.intro (hi.1.2.1) (hi.1.2.2)), And.intro (oq_54f49eb5 hi.2.1.1) (oq_8d48a029 hi.2.1.2), oq_b1226e90 hi.2.2.2 g1003, hi.2.2.2⟩ | omega) (by first | exact qk_me hm (by decide) (oq_b575e8c1 g1003 b1002.2) | omega) kx
  refine z_const X rfl (z_store_n X (lv' := [(2, .int (Int32.ofInt 0)), (0, .ref (A 31)), (1, .int (Int32.ofInt x))]) rfl (by decide) (fun _ h => h) (z_const X rfl (z_store_n X (lv' := [(3, .int (Int32.ofInt 0)), (2, .int (Int32.ofInt 0)), (0, .ref (A 31)), (1, .int (Int32.ofInt x))]) rfl (by decide) (fun _ h => h) (WS_pq [2, 3, 1, 0] (lv' := [(0, .ref (A 31)), (1, .int (Int32.ofInt x)), (2, .int (Int32.ofInt 0)), (3, .int (Int32.ofInt 0))]) rfl (L4 ((12 - 0 : Int).toNat + 1) s x 0 0 I F rfl (by first | exact ⟨And.intro (by decide) (And.intro (p0.1) (p0.2)), And.intro (by decide) (by decide), b1.1, by decide⟩ | omega) (Nat.lt_succ_self _) ?_)))))
  intro s2 x3 x4 Is2 Fs2 Qs2 hs2
  have b5 := bi_9 Is2
  refine z_load_n X (x := x3) rfl (List.Mem.tail _ (List.Mem.tail _ (List.Mem.head _))) ?_
  exact w_iret X.1 q hRt rfl (ax_d X (show cdA 9 69 = some (.ireturn, 1, 0, 0, 0) from rfl)) (Nat.zero_le _) (Nat.zero_le _) ⟨_, rfl, Is2, Fs2, x3, rfl, ⟨by first | exact oq_fa4e5087 hs2.1.1 | omega, by first | exact oq_78843a64 hs2.1.2 | omega⟩, (by have z := Qs2; rw [show x4 = iI s 9 by omega] at z; exact z)⟩
set_option maxRecDepth 4000 in
theorem c0_leadAt6 (G : GX l s0 D tys a0 dT) {U : AirD} {aj bj : Int64} {pc : Int} (I : Bd s) (jAIR : AIR s) (jCPL : CPL s) (jLSN : LSN aj bj s) (jCDJ : CDJ U s) (jHEH : HEH aj bj pc s) {x y : Int} (p0 : 0 ≤ x ∧ x ≤ 23) (p1 : rng y) : CT l s0 D A dT 8 (rmN 8) [.ref (A 31), .int (Int32.ofInt x), .int (Int32.ofInt y)] s (fun o t => Bd t ∧ Fm [] [33, 20, 34] s t ∧ ∃ e, o = .inl (some (.int (Int32.ofInt e))) ∧ rng e ∧ (PLQ (ptL U (inL aj bj) pc (x : Int).toNat) (iI s 9) t ∧ LDX (ptL U (inL aj bj) pc (x : Int).toNat) (iI s 9) y e)) := by
  refine ct_ofX G (by decide) (Nat.le_of_ble_eq_true rfl) (fun k X E ET hRt hXt q => ?_)
  show WS k 0 [(0, .ref (A 31)), (1, .int (Int32.ofInt x)), (2, .int (Int32.ofInt y))] [] _ 0 0
  have F : Fm [] [33, 20, 34] s s := fm_rf _ _ s
  have b1 := bi_9 I
  have L10 : ∀ (n : Nat) (t : PS) (xv yv ld c : Int), Bd t → Fm [] [33, 20, 34] s t → AIR t → CPL t → LSN aj bj t → CDJ U t → HEH aj bj pc t → (Int32.ofInt ld = ldH U (inL aj bj) pc (x : Int).toNat (-1) ∧ PLQ (ptL U (inL aj bj) pc (x : Int).toNat) c t) → ((xv = x ∧ 0 ≤ x ∧ x ≤ 23) ∧ (yv = y ∧ rng y) ∧ rng ld ∧ (0 ≤ c ∧ c ≤ iI s 9) ∧ iI t 9 = iI s 9) → (12 - c : Int).toNat < n → (∀ (t' : PS) (c' : Int), Bd t' → Fm [] [33, 20, 34] s t' → AIR t' → CPL t' → LSN aj bj t' → CDJ U t' → HEH aj bj pc t' → (Int32.ofInt ld = ldH U (inL aj bj) pc (x : Int).toNat (-1) ∧ PLQ (ptL U (inL aj bj) pc (x : Int).toNat) c' t') → ((xv = x ∧ 0 ≤ x ∧ x ≤ 23) ∧ (yv = y ∧ rng y) ∧ c' = iI s 9 ∧ iI t' 9 = iI s 9) → WS k 44 [(0, .ref (A 31)), (1, .int (Int32.ofInt xv)), (2, .int (Int32.ofInt yv)), (3, .int (Int32.ofInt ld)), (4, .int (Int32.ofInt c'))] [] (Wd A dT t') 0 0) → WS k 10 [(0, .ref (A 31)), (1, .int (Int32.ofInt xv)), (2, .int (Int32.ofInt yv)), (3, .int (Int32.ofInt ld)), (4, .int (Int32.ofInt c))] [] (Wd A dT t) 0 0 := by
    intro n
    induction n with
    | zero =>
      intro t xv yv ld c I F jjAIR jjCPL jjLSN jjCDJ jjHEH hq hi hm kx
      exact absurd hm (Nat.not_lt_zero _)
    | succ n ih =>
      intro t xv yv ld c I F jjAIR jjCPL jjLSN jjCDJ jjHEH hq hi hm kx
      have b1001 := bi_9 I
      refine z_load X (x := c) rfl (List.Mem.tail _ (List.Mem.tail _ (List.Mem.tail _ (List.Mem.tail _ (List.Mem.head _))))) (z_aload_n X (x := A 31) rfl (List.Mem.head _) (s_getR X 31 rfl (c518_ok rfl) rfl rfl (z_getI X 3 rfl (c518_ok rfl) rfl rfl ?_)))
      have b1002 := bi_9 I
      refine z_icmp_ge X (t := 44) rfl rfl ⟨by first | exact oq_fa4e5087 hi.2.2.2.1.1 | omega, by first | exact oq_39d2cc6e hi.2.2.2.1.2 b1.2 | omega⟩ (rng_to _) (fun g1003 => ?_) (fun g1003 => ?_)
      ·
        refine WS_pq [0, 1, 2, 3, 4] (lv' := [(0, .ref (A 31)), (1, .int (Int32.ofInt xv)), (2, .int (Int32.ofInt yv)), (3, .int (Int32.ofInt ld)), (4, .int (Int32.ofInt c))]) rfl ?_
        exact kx _ c I F jjAIR jjCPL jjLSN jjCDJ jjHEH hq (by first | exact ⟨And.intro (hi.1.1) (And.intro (hi.1.2.1) (hi.1.2.2)), And.intro (hi.2.1.1) (And.intro (hi.2.1.2.1) (hi.2.1.2.2)), oq_537ca82a hi.2.2.2.1.2 g1003 hi.2.2.2.2, hi.2.2.2.2⟩ | omega)
      ·
        refine z_aload_n X (x := A 31) rfl (List.Mem.head _) (s_getR X 31 rfl (c518_ok rfl) rfl rfl (z_load X (x := c) rfl (List.Mem.tail _ (List.Mem.tail _ (List.Mem.tail _ (List.Mem.tail _ (List.Mem.head _))))) (z_load_n X (x := ld) rfl (List.Mem.tail _ (List.Mem.tail _ (List.Mem.tail _ (List.Mem.head _)))) (z_aload_n X (x := A 31) rfl (List.Mem.head _) (z_load_n X (x := xv) rfl (List.Mem.tail _ (List.Mem.head _)) (z_load X (x := c) rfl (List.Mem.tail _ (List.Mem.tail _ (List.Mem.tail _ (List.Mem.tail _ (List.Mem.head _))))) (zcV_i1 X E 31 (As := [.int (Int32.ofInt xv), .int (Int32.ofInt c)]) (st := [.int (Int32.ofInt ld), .int (Int32.ofInt c), .ref (A 40)]) rfl rfl rfl rfl (c0_loadAt6 G I jjAIR jjCPL jjLSN jjCDJ jjHEH (by first | exact ⟨oq_e4757433 hi.1.1 hi.1.2.1, oq_baafdcc9 hi.1.1 hi.1.2.2⟩ | omega) (by first | exact ⟨oq_fa4e5087 hi.2.2.2.1.1, oq_8be37138 g1003 b1002.2⟩ | omega)) rfl (Nat.le_of_ble_eq_true rfl) (fun s1004 e1005 Is1004 Fs1004 JHEH_s1004 hrs1004 hps1004 => ?_))))))))
        have Gs1004 := fm_tq F Fs1004 rfl rfl
        have JAIR_s1004 : AIR s1004 := AIR_fm Fs1004 (by decide) jjAIR
        have JCPL_s1004 : CPL s1004 := CPL_fm Fs1004 (by decide) jjCPL
        have JLSN_s1004 : LSN aj bj s1004 := LSN_fm Fs1004 (by decide) jjLSN
        have JCDJ_s1004 : CDJ U s1004 := CDJ_fm Fs1004 (by decide) jjCDJ
        have ws1004_9 : iI s1004 9 = iI t 9 := fm_iq Fs1004 rfl
        have aws1004_34 : SAM 34 t s1004 := sam_ts (sam_rf (a := 34) (s := t)) (sam_fm Fs1004 (by decide))
        have hL1 : Int32.ofInt e1005 = ldH U (inL aj bj) pc (x : Int).toNat c := by rw [show x = xv by first | (clear hps1004; omega) | omega]; exact hps1004.1
        refine z_sub X rfl (z_anyV (fun y1006 hy1006 ey1006 => ?_))
        refine z_ast X 40 rfl (c518_ok rfl) rfl (by first | exact hi.2.2.2.1.1 | omega) (show c < 12 by first | exact oq_f36e82a8 g1003 b1002.2 | omega) (cbig_ok rfl) (wd_gen (fun s1007 hs1007 => ?_))
        have Is1007 : Bd s1007 := eqB hs1007 (bd_C Is1004 (show ((-2147483648) : Int) ≤ y1006 ∧ y1006 ≤ 2147483647 by first | exact ⟨hy1006.1, hy1006.2⟩ | omega) hy1006)
        have Fs1007 := eqF hs1007 (fm_C Gs1004 (inl_ok (a := 34) rfl))
        have ws1007_9 : iI s1007 9 = iI s1004 9 := eqI hs1007 rfl
        have aws1007_34 : UPD 34 (c) y1006 t s1007 := by rw [hs1007]; exact upd_put aws1004_34 hy1006
        have fs1007 : Fm [] [34] s1004 s1007 := by rw [hs1007]; exact fm_C (fm_rf _ _ _) (show 34 ∈ _ by decide)
        have JAIR_s1007 : AIR s1007 := AIR_fm fs1007 (by decide) JAIR_s1004
        have JCPL_s1007 : CPL s1007 := CPL_fm fs1007 (by decide) JCPL_s1004
        have JLSN_s1007 : LSN aj bj s1007 := LSN_fm fs1007 (by decide) JLSN_s1004
        have JCDJ_s1007 : CDJ U s1007 := CDJ_fm fs1007 (by decide) JCDJ_s1004
        have JHEH_s1007 : HEH aj bj pc s1007 := HEH_fm fs1007 (by decide) JHEH_s1004
        refine z_inc X (x := c) (lv' := [(4, .int (Int32.ofInt (c + 1))), (0, .ref (A 31)), (1, .int (Int32.ofInt xv)), (2, .int (Int32.ofInt yv)), (3, .int (Int32.ofInt ld))]) rfl (by decide) (List.Mem.tail _ (List.Mem.tail _ (List.Mem.tail _ (List.Mem.tail _ (List.Mem.head _))))) (fun _ h => h) (z_goto X (t := 10) rfl rfl (WS_pq [1, 2, 3, 4, 0] (lv' := [(0, .ref (A 31)), (1, .int (Int32.ofInt xv)), (2, .int (Int32.ofInt yv)), (3, .int (Int32.ofInt ld)), (4, .int (Int32.ofInt (c + 1)))]) rfl ?_))
        exact ih _ xv yv ld (c + 1) Is1007 Fs1007 JAIR_s1007 JCPL_s1007 JLSN_s1007 JCDJ_s1007 JHEH_s1007 ⟨hq.1, plq_up hq.2 aws1007_34 (by first | (clear hps1004; omega) | omega) (ptl_of hq.1 hL1 ey1006 hy1006 (by first | (clear hps1004; omega) | omega))⟩ (by first | exact ⟨And.intro (hi.1.1) (And.intro (hi.1.2.1) (hi.1.2.2)), And.intro (hi.2.1.1) (And.intro (hi.2.1.2.1) (hi.2.1.2.2)), And.intro (hi.2.2.1.1) (hi.2.2.1.2), And.intro (oq_54f49eb5 hi.2.2.2.1.1) (oq_8a89b3ae g1003 hi.2.2.2.2), oq_878618b1 ws1007_9 ws1004_9 hi.2.2.2.2⟩ | omega) (by first | exact qk_me hm (by decide) (oq_b575e8c1 g1003 b1002.2) | omega) kx
  have L47 : ∀ (n : Nat) (t : PS) (yv c : Int), Bd t → Fm [] [33, 20, 34] s t → AIR t → CPL t → LSN aj bj t → CDJ U t → HEH aj bj pc t → (PLQ (ptL U (inL aj bj) pc (x : Int).toNat) (iI s 9) t ∧ LDQ (ptL U (inL aj bj) pc (x : Int).toNat) (iI s 9).toNat y c) → ((yv = y ∧ rng y) ∧ (0 ≤ c ∧ c ≤ iI s 9) ∧ iI t 9 = iI s 9) → (12 - c : Int).toNat < n → (∀ (t' : PS) (c' : Int), Bd t' → Fm [] [33, 20, 34] s t' → AIR t' → CPL t' → LSN aj bj t' → CDJ U t' → HEH aj bj pc t' → (PLQ (ptL U (inL aj bj) pc (x : Int).toNat) (iI s 9) t' ∧ LDQ (ptL U (inL aj bj) pc (x : Int).toNat) (iI s 9).toNat y c') → (c' = iI s 9) → WS k 88 [(0, .ref (A 31)), (2, .int (Int32.ofInt yv)), (4, .int (Int32.ofInt c'))] [] (Wd A dT t') 0 0) → WS k 47 [(0, .ref (A 31)), (2, .int (Int32.ofInt yv)), (4, .int (Int32.ofInt c))] [] (Wd A dT t) 0 0 := by
    intro n
    induction n with
    | zero =>
      intro t yv c I F jjAIR jjCPL jjLSN jjCDJ jjHEH hq hi hm kx
      exact absurd hm (Nat.not_lt_zero _)
    | succ n ih =>
      intro t yv c I F jjAIR jjCPL jjLSN jjCDJ jjHEH hq hi hm kx
      have b2001 := bi_9 I
      refine z_load X (x := c) rfl (List.Mem.tail _ (List.Mem.tail _ (List.Mem.head _))) (z_aload_n X (x := A 31) rfl (List.Mem.head _) (s_getR X 31 rfl (c518_ok rfl) rfl rfl (z_getI X 3 rfl (c518_ok rfl) rfl rfl ?_)))
      have b2002 := bi_9 I
      refine z_icmp_ge X (t := 88) rfl rfl ⟨by first | exact oq_fa4e5087 hi.2.1.1 | omega, by first | exact oq_39d2cc6e hi.2.1.2 b1.2 | omega⟩ (rng_to _) (fun g2003 => ?_) (fun g2003 => ?_)
      ·
        refine WS_pq [0, 1, 2] (lv' := [(0, .ref (A 31)), (2, .int (Int32.ofInt yv)), (4, .int (Int32.ofInt c))]) rfl ?_
        exact kx _ c I F jjAIR jjCPL jjLSN jjCDJ jjHEH hq (by first | exact oq_537ca82a hi.2.1.2 g2003 hi.2.2 | omega)
      ·
        have hV : iC t 34 (c : Int).toNat = (ptL U (inL aj bj) pc (x : Int).toNat) (c : Int).toNat := hq.1 _ (by omega)
        refine z_aload_n X (x := A 31) rfl (List.Mem.head _) (s_getR X 31 rfl (c518_ok rfl) rfl rfl (z_load X (x := c) rfl (List.Mem.tail _ (List.Mem.tail _ (List.Mem.head _))) (z_ald X 40 rfl (c518_ok rfl) rfl (by first | exact hi.2.1.1 | omega) (show c < 12 by first | exact oq_f36e82a8 g2003 b2002.2 | omega) (cbig_ok rfl) ?_)))
        have b2004 := bc_34 I (show (c).toNat < 12 by first | exact oq_2dac6850 g2003 b2002.2 | omega)
        refine z_if_eq X (t := 82) rfl rfl (rng_to _) (fun g2005 => ?_) (fun g2005 => ?_)
        ·
          refine z_inc X (x := c) (lv' := [(4, .int (Int32.ofInt (c + 1))), (0, .ref (A 31)), (2, .int (Int32.ofInt yv))]) rfl (by decide) (List.Mem.tail _ (List.Mem.tail _ (List.Mem.head _))) (fun _ h => h) (z_goto X (t := 47) rfl rfl (WS_pq [1, 2, 0] (lv' := [(0, .ref (A 31)), (2, .int (Int32.ofInt yv)), (4, .int (Int32.ofInt (c + 1)))]) rfl ?_))
          exact ih _ yv (c + 1) I F jjAIR jjCPL jjLSN jjCDJ jjHEH ⟨hq.1, ldq_up hq.2 (by omega) (Or.inl (by rw [← hV]; omega))⟩ (by first | exact ⟨And.intro (hi.1.1) (And.intro (hi.1.2.1) (hi.1.2.2)), And.intro (oq_54f49eb5 hi.2.1.1) (oq_8a89b3ae g2003 hi.2.2), hi.2.2⟩ | omega) (by first | exact qk_me hm (by decide) (oq_b575e8c1 g2003 b2002.2) | omega) kx
        ·
          refine z_aload_n X (x := A 31) rfl (List.Mem.head _) (z_load X (x := c) rfl (List.Mem.tail _ (List.Mem.tail _ (List.Mem.head _))) (zcV_i0 X E 31 (As := [.int (Int32.ofInt c)]) (st := []) rfl rfl rfl rfl (c0_ahead6 G I (by first | exact ⟨hi.2.1.1, oq_e4d7f3c5 g2003 b2002.2⟩ | omega)) rfl (Nat.le_of_ble_eq_true rfl) (fun s2006 e2007 Is2006 Fs2006 hrs2006 hps2006 => ?_)))
          have Gs2006 := fm_tq F Fs2006 rfl rfl
          have JAIR_s2006 : AIR s2006 := AIR_fm Fs2006 (by decide) jjAIR
          have JCPL_s2006 : CPL s2006 := CPL_fm Fs2006 (by decide) jjCPL
          have JLSN_s2006 : LSN aj bj s2006 := LSN_fm Fs2006 (by decide) jjLSN
          have JCDJ_s2006 : CDJ U s2006 := CDJ_fm Fs2006 (by decide) jjCDJ
          have JHEH_s2006 : HEH aj bj pc s2006 := HEH_fm Fs2006 (by decide) jjHEH
          have ws2006_9 : iI s2006 9 = iI t 9 := fm_iq Fs2006 rfl
          have hA9 : e2007 = ahN (ptL U (inL aj bj) pc (x : Int).toNat) (iI s 9).toNat (c : Int).toNat := by have z := hps2006; rw [show iI t 9 = iI s 9 by first | (clear g2005; omega) | omega] at z; exact z.trans (ahn_c (fun j hj => hq.1 j (by first | (clear g2005; omega) | omega)) (by first | (clear g2005; omega) | omega))
          refine z_load_n X (x := yv) rfl (List.Mem.tail _ (List.Mem.head _)) (z_icmp_ne X (t := 82) rfl rfl hrs2006 ⟨by first | exact oq_6bc29d15 hi.1.1 hi.1.2.1 | omega, by first | exact oq_60a194f9 hi.1.1 hi.1.2.2 | omega⟩ (fun g2008 => ?_) (fun g2008 => ?_))
          ·
            refine z_inc X (x := c) (lv' := [(4, .int (Int32.ofInt (c + 1))), (0, .ref (A 31)), (2, .int (Int32.ofInt yv))]) rfl (by decide) (List.Mem.tail _ (List.Mem.tail _ (List.Mem.head _))) (fun _ h => h) (z_goto X (t := 47) rfl rfl (WS_pq [1, 2, 0] (lv' := [(0, .ref (A 31)), (2, .int (Int32.ofInt yv)), (4, .int (Int32.ofInt (c + 1)))]) rfl ?_))
            exact ih _ yv (c + 1) Is2006 Gs2006 JAIR_s2006 JCPL_s2006 JLSN_s2006 JCDJ_s2006 JHEH_s2006 ⟨plq_s hq.1 (sam_fm Fs2006 (by decide)), ldq_up hq.2 (by first | (clear g2008 g2005; omega) | (clear g2005; omega) | omega) (Or.inr (by rw [← hA9]; omega))⟩ (by first | exact ⟨And.intro (hi.1.1) (And.intro (hi.1.2.1) (hi.1.2.2)), And.intro (oq_54f49eb5 hi.2.1.1) (oq_8a89b3ae g2003 hi.2.2), oq_1aa5be9e ws2006_9 hi.2.2⟩ | omega) (by first | exact qk_me hm (by decide) (oq_b575e8c1 g2003 b2002.2) | omega) kx
          ·
            refine z_load X (x := c) rfl (List.Mem.tail _ (List.Mem.tail _ (List.Mem.head _))) ?_
            exact w_iret X.1 q hRt rfl (ax_d X (show cdA 8 81 = some (.ireturn, 1, 0, 0, 0) from rfl)) (Nat.zero_le _) (Nat.zero_le _) ⟨_, rfl, Is2006, Gs2006, c, rfl, ⟨by first | exact oq_fa4e5087 hi.2.1.1 | omega, by first | exact oq_8be37138 g2003 b2002.2 | omega⟩, ⟨plq_s hq.1 (sam_fm Fs2006 (by decide)), Or.inl ⟨by first | (clear g2005; omega) | omega, by first | (clear g2005; omega) | omega, by rw [← hV]; omega, by rw [← hA9]; omega, hq.2⟩⟩⟩
  refine z_aload_n X (x := A 31) rfl (List.Mem.head _) (z_load_n X (x := x) rfl (List.Mem.tail _ (List.Mem.head _)) (z_const X rfl (zcV_i1 X E 31 (As := [.int (Int32.ofInt x), .int (Int32.ofInt (-1))]) (st := []) rfl rfl rfl rfl (c0_loadAt6 G I jAIR jCPL jLSN jCDJ jHEH (by first | exact ⟨p0.1, p0.2⟩ | omega) (by first | exact ⟨by decide, by decide⟩ | omega)) rfl (Nat.le_of_ble_eq_true rfl) (fun s2 e3 Is2 Fs2 JHEH_s2 hrs2 hps2 => ?_))))
  have Gs2 := fm_tq F Fs2 rfl rfl
  have JAIR_s2 : AIR s2 := AIR_fm Fs2 (by decide) jAIR
  have JCPL_s2 : CPL s2 := CPL_fm Fs2 (by decide) jCPL
  have JLSN_s2 : LSN aj bj s2 := LSN_fm Fs2 (by decide) jLSN
  have JCDJ_s2 : CDJ U s2 := CDJ_fm Fs2 (by decide) jCDJ
  have ws2_9 : iI s2 9 = iI s 9 := fm_iq Fs2 rfl
  have hL0 : Int32.ofInt e3 = ldH U (inL aj bj) pc (x : Int).toNat (-1) := hps2.1
  refine z_store_n X (lv' := [(3, .int (Int32.ofInt e3)), (0, .ref (A 31)), (1, .int (Int32.ofInt x)), (2, .int (Int32.ofInt y))]) rfl (by decide) (fun _ h => h) (z_const X rfl (z_store X (lv' := [(4, .int (Int32.ofInt 0)), (3, .int (Int32.ofInt e3)), (0, .ref (A 31)), (1, .int (Int32.ofInt x)), (2, .int (Int32.ofInt y))]) rfl (by decide) (fun _ h => h) (WS_pq [2, 3, 4, 1, 0] (lv' := [(0, .ref (A 31)), (1, .int (Int32.ofInt x)), (2, .int (Int32.ofInt y)), (3, .int (Int32.ofInt e3)), (4, .int (Int32.ofInt 0))]) rfl (L10 ((12 - 0 : Int).toNat + 1) s2 x y e3 0 Is2 Gs2 JAIR_s2 JCPL_s2 JLSN_s2 JCDJ_s2 JHEH_s2 ⟨hL0, plq_0⟩ (by first | exact ⟨And.intro (by decide) (And.intro (p0.1) (p0.2)), And.intro (by decide) (And.intro (p1.1) (p1.2)), by first | (clear hps2; omega) | omega, And.intro (by decide) (b1.1), ws2_9⟩ | omega) (Nat.lt_succ_self _) ?_))))
  intro s4 x5 Is4 Fs4 JAIR_s4 JCPL_s4 JLSN_s4 JCDJ_s4 JHEH_s4 Qs4 hs4
  have b6 := bi_9 Is4
  refine z_const X rfl (z_store X (lv' := [(4, .int (Int32.ofInt 0)), (0, .ref (A 31)), (1, .int (Int32.ofInt x)), (2, .int (Int32.ofInt y)), (3, .int (Int32.ofInt e3))]) rfl (by decide) (fun _ h => h) (WS_pq [1, 3, 0] (lv' := [(0, .ref (A 31)), (2, .int (Int32.ofInt y)), (4, .int (Int32.ofInt 0))]) rfl (L47 ((12 - 0 : Int).toNat + 1) s4 y 0 Is4 Fs4 JAIR_s4 JCPL_s4 JLSN_s4 JCDJ_s4 JHEH_s4 ⟨by have z := Qs4.2; rw [show x5 = iI s 9 by first | (clear hps2; omega) | omega] at z; exact z, ldq_0⟩ (by first | exact ⟨And.intro (by decide) (And.intro (hs4.2.1.2.1) (hs4.2.1.2.2)), And.intro (by decide) (b1.1), hs4.2.2.2⟩ | omega) (Nat.lt_succ_self _) ?_)))
  intro s7 x8 Is7 Fs7 JAIR_s7 JCPL_s7 JLSN_s7 JCDJ_s7 JHEH_s7 Qs7 hs7
  have b9 := bi_9 Is7
  refine z_const X rfl ?_
  exact w_iret X.1 q hRt rfl (ax_d X (show cdA 8 89 = some (.ireturn, 1, 0, 0, 0) from rfl)) (Nat.zero_le _) (Nat.zero_le _) ⟨_, rfl, Is7, Fs7, (-1), rfl, (by decide), ⟨Qs7.1, Or.inr ⟨rfl, by have z := Qs7.2; rw [show x8 = iI s 9 by first | (clear hps2; omega) | omega] at z; exact z⟩⟩⟩
set_option maxRecDepth 4000 in
theorem cs_lead6 (G : GX l s0 D tys a0 dT) {U : AirD} (I : Bd s) (jAIR : AIR s) (jCPL : CPL s) (jCDJ : CDJ U s) (jPMJ : PMJ s) {u v w p : Int} (p0 : rng u) (p1 : rng v) (p2 : rng w) (p3 : p = 0 ∨ p = 1) : CT l s0 D A dT 173 (rmN 173) [.ref (A 0), .int (Int32.ofInt u), .int (Int32.ofInt v), .int (Int32.ofInt w), .int (Int32.ofInt p)] s (fun o t => Bd t ∧ Fm [22, 23] [33, 26, 27, 28, 29, 30, 31, 32, 20, 34] s t ∧ ((∃ e, o = .inl (some (.int (Int32.ofInt e))) ∧ rng e ∧ ((0 ≤ u ∧ u ≤ 7) ∧ (0 ≤ v ∧ v ≤ 23) ∧ LDE (ptL U (pcS (pfC s) u) 1 (v : Int).toNat) (uN U) w p e)) ∨ ∃ x : Nat, o = .inr (exN x) ∧ (x = 0 ∧ (u < 0 ∨ 7 < u ∨ v < 0 ∨ 23 < v)))) := by
  refine ct_ofX G (by decide) (Nat.le_of_ble_eq_true rfl) (fun k X E ET hRt hXt q => ?_)
  show WS k 0 [(0, .ref (A 0)), (1, .int (Int32.ofInt u)), (2, .int (Int32.ofInt v)), (3, .int (Int32.ofInt w)), (4, .int (Int32.ofInt p))] [] _ 0 0
  have F : Fm [22, 23] [33, 26, 27, 28, 29, 30, 31, 32, 20, 34] s s := fm_rf _ _ s
  have hUn : iI s 9 = (uN U : Int) := jCDJ.1.1
  have b1 := bi_9 I
  refine z_aload_n X (x := A 0) rfl (List.Mem.head _) (z_load_n X (x := u) rfl (List.Mem.tail _ (List.Mem.head _)) (z_callV X 0 (rm := rmN 182) (As := [.int (Int32.ofInt u)]) (st := []) rfl rfl (by decide) rfl (by rw [E.1, E.2.1, E.2.2.1]; exact cs_needPiece6 G I (by first | exact ⟨p0.1, p0.2⟩ | omega)) ⟨by rw [E.2.2.2]; exact (show (rmN 182).frames + 1 ≤ (rmN 173).frames by decide), by rw [E.2.2.2]; exact (show 8 + (mNL (miB 182) + 11) + (rmN 182).locals ≤ (rmN 173).locals by decide), by rw [E.2.2.2]; exact (show 0 + 1 ≤ 2 by decide), by rw [E.2.2.2]; exact (show 0 + 6 ≤ 12 by decide)⟩ (Nat.le_of_ble_eq_true rfl) (fun vv s2 hq => ?_) (fun ee s2 hq => ?_)))
  rotate_left
  · obtain ⟨Is2, Fs2, (⟨hv, hps2⟩ | ⟨xx, hv, hps2⟩)⟩ := hq
    · cases hv
    · cases hv
      have Gs2 := fm_tq F Fs2 rfl rfl
      have JAIR_s2 : AIR s2 := AIR_fm Fs2 (by decide) jAIR
      have JCPL_s2 : CPL s2 := CPL_fm Fs2 (by decide) jCPL
      have JCDJ_s2 : CDJ U s2 := CDJ_fm Fs2 (by decide) jCDJ
      have JPMJ_s2 : PMJ s2 := PMJ_fm Fs2 (by decide) jPMJ
      have ws2_9 : iI s2 9 = iI s 9 := fm_iq Fs2 rfl
      exact x_out X.1 q (fun x hx => (hXt x hx).elim) (show 1 ≤ 2 by decide) (show 6 ≤ 12 by decide) ⟨_, rfl, Is2, Gs2, Or.inr ⟨xx, rfl, by first | (clear p3; omega) | omega⟩⟩
  obtain ⟨Is2, Fs2, (⟨hv, hps2⟩ | ⟨xx, hv, hps2⟩)⟩ := hq
  rotate_left
  · cases hv
  cases hv
  have Gs2 := fm_tq F Fs2 rfl rfl
  have JAIR_s2 : AIR s2 := AIR_fm Fs2 (by decide) jAIR
  have JCPL_s2 : CPL s2 := CPL_fm Fs2 (by decide) jCPL
  have JCDJ_s2 : CDJ U s2 := CDJ_fm Fs2 (by decide) jCDJ
  have JPMJ_s2 : PMJ s2 := PMJ_fm Fs2 (by decide) jPMJ
  have ws2_9 : iI s2 9 = iI s 9 := fm_iq Fs2 rfl
  show WS k 5 [(0, .ref (A 0)), (1, .int (Int32.ofInt u)), (2, .int (Int32.ofInt v)), (3, .int (Int32.ofInt w)), (4, .int (Int32.ofInt p))] [] (Wd A dT s2) 1 6
  refine z_aload_n X (x := A 0) rfl (List.Mem.head _) (z_load_n X (x := v) rfl (List.Mem.tail _ (List.Mem.tail _ (List.Mem.head _))) (z_callV X 0 (rm := rmN 183) (As := [.int (Int32.ofInt v)]) (st := []) rfl rfl (by decide) rfl (by rw [E.1, E.2.1, E.2.2.1]; exact cs_needQuarter6 G Is2 (by first | exact ⟨p1.1, p1.2⟩ | omega)) ⟨by rw [E.2.2.2]; exact (show (rmN 183).frames + 1 ≤ (rmN 173).frames by decide), by rw [E.2.2.2]; exact (show 8 + (mNL (miB 183) + 11) + (rmN 183).locals ≤ (rmN 173).locals by decide), by rw [E.2.2.2]; exact (show 1 + 1 ≤ 2 by decide), by rw [E.2.2.2]; exact (show 6 + 6 ≤ 12 by decide)⟩ (Nat.le_of_ble_eq_true rfl) (fun vv s4 hq => ?_) (fun ee s4 hq => ?_)))
  rotate_left
  · obtain ⟨Is4, Fs4, (⟨hv, hps4⟩ | ⟨xx, hv, hps4⟩)⟩ := hq
    · cases hv
    · cases hv
      have Gs4 := fm_tq Gs2 Fs4 rfl rfl
      have JAIR_s4 : AIR s4 := AIR_fm Fs4 (by decide) JAIR_s2
      have JCPL_s4 : CPL s4 := CPL_fm Fs4 (by decide) JCPL_s2
      have JCDJ_s4 : CDJ U s4 := CDJ_fm Fs4 (by decide) JCDJ_s2
      have JPMJ_s4 : PMJ s4 := PMJ_fm Fs4 (by decide) JPMJ_s2
      have ws4_9 : iI s4 9 = iI s2 9 := fm_iq Fs4 rfl
      exact x_out X.1 q (fun x hx => (hXt x hx).elim) (show (1 + 1) ≤ 2 by decide) (show (6 + 6) ≤ 12 by decide) ⟨_, rfl, Is4, Gs4, Or.inr ⟨xx, rfl, by first | (clear hps2 p3; omega) | (clear p3; omega) | omega⟩⟩
  obtain ⟨Is4, Fs4, (⟨hv, hps4⟩ | ⟨xx, hv, hps4⟩)⟩ := hq
  rotate_left
  · cases hv
  cases hv
  have Gs4 := fm_tq Gs2 Fs4 rfl rfl
  have JAIR_s4 : AIR s4 := AIR_fm Fs4 (by decide) JAIR_s2
  have JCPL_s4 : CPL s4 := CPL_fm Fs4 (by decide) JCPL_s2
  have JCDJ_s4 : CDJ U s4 := CDJ_fm Fs4 (by decide) JCDJ_s2
  have JPMJ_s4 : PMJ s4 := PMJ_fm Fs4 (by decide) JPMJ_s2
  have ws4_9 : iI s4 9 = iI s2 9 := fm_iq Fs4 rfl
  show WS k 10 [(0, .ref (A 0)), (1, .int (Int32.ofInt u)), (2, .int (Int32.ofInt v)), (3, .int (Int32.ofInt w)), (4, .int (Int32.ofInt p))] [] (Wd A dT s4) (1 + 1) (6 + 6)
  refine z_aload_n X (x := A 0) rfl (List.Mem.head _) (z_load_n X (x := u) rfl (List.Mem.tail _ (List.Mem.head _)) (z_callV X 0 (rm := rmN 179) (As := [.int (Int32.ofInt u)]) (st := []) rfl rfl (by decide) rfl (by rw [E.1, E.2.1, E.2.2.1]; exact cs_listenTo6 G Is4 (by first | exact ⟨hps2.1, hps2.2⟩ | omega)) ⟨by rw [E.2.2.2]; exact (show (rmN 179).frames + 1 ≤ (rmN 173).frames by decide), by rw [E.2.2.2]; exact (show 8 + (mNL (miB 179) + 11) + (rmN 179).locals ≤ (rmN 173).locals by decide), by rw [E.2.2.2]; exact (show (1 + 1) + 0 ≤ 2 by decide), by rw [E.2.2.2]; exact (show (6 + 6) + 0 ≤ 12 by decide)⟩ (Nat.le_of_ble_eq_true rfl) (fun vv s6 hq => ?_) (fun ee s6 hq => ?_)))
  rotate_left
  · obtain ⟨Is6, Fs6, hv, hps6⟩ := hq; cases hv
  obtain ⟨Is6, Fs6, hv, hps6⟩ := hq
  cases hv
  have Gs6 := fm_tq Gs4 Fs6 rfl rfl
  have JAIR_s6 : AIR s6 := AIR_fm Fs6 (by decide) JAIR_s4
  have JCPL_s6 : CPL s6 := CPL_fm Fs6 (by decide) JCPL_s4
  have JCDJ_s6 : CDJ U s6 := CDJ_fm Fs6 (by decide) JCDJ_s4
  have ws6_9 : iI s6 9 = iI s4 9 := fm_iq Fs6 rfl
  show WS k 15 [(0, .ref (A 0)), (1, .int (Int32.ofInt u)), (2, .int (Int32.ofInt v)), (3, .int (Int32.ofInt w)), (4, .int (Int32.ofInt p))] [] (Wd A dT s6) (1 + 1) (6 + 6)
  have hIn : inL (gD s4 22 (u : Int).toNat) (gD s4 23 (u : Int).toNat) = pcS (pfC s) u := by rw [pm_eq (p := u) JPMJ_s4 (by first | (clear hps4 hps2 p3; omega) | (clear hps2 p3; omega) | omega), show pfC s4 = pfC s from funext (fun j => fm_c Gs4 (by decide))]
  refine z_aload_n X (x := A 0) rfl (List.Mem.head _) (s_getR X 0 rfl (c518_ok rfl) rfl rfl (z_load_n X (x := v) rfl (List.Mem.tail _ (List.Mem.tail _ (List.Mem.head _))) (z_load_n X (x := w) rfl (List.Mem.tail _ (List.Mem.tail _ (List.Mem.tail _ (List.Mem.head _)))) (z_callV X 31 (rm := rmN 8) (As := [.int (Int32.ofInt v), .int (Int32.ofInt w)]) (st := []) rfl rfl (by decide) rfl (by rw [E.1, E.2.1, E.2.2.1]; exact c0_leadAt6 G Is6 JAIR_s6 JCPL_s6 hps6.1 JCDJ_s6 hps6.2 (by first | exact ⟨hps4.1, hps4.2⟩ | omega) (by first | exact ⟨p2.1, p2.2⟩ | omega)) ⟨by rw [E.2.2.2]; exact (show (rmN 8).frames + 1 ≤ (rmN 173).frames by decide), by rw [E.2.2.2]; exact (show 8 + (mNL (miB 8) + 11) + (rmN 8).locals ≤ (rmN 173).locals by decide), by rw [E.2.2.2]; exact (show (1 + 1) + 0 ≤ 2 by decide), by rw [E.2.2.2]; exact (show (6 + 6) + 0 ≤ 12 by decide)⟩ (Nat.le_of_ble_eq_true rfl) (fun vv s8 hq => ?_) (fun ee s8 hq => ?_)))))
  rotate_left
  · obtain ⟨Is8, Fs8, e9, hv, hrs8, hps8⟩ := hq; cases hv
  obtain ⟨Is8, Fs8, e9, hv, hrs8, hps8⟩ := hq
  cases hv
  have Gs8 := fm_tq Gs6 Fs8 rfl rfl
  have ws8_9 : iI s8 9 = iI s6 9 := fm_iq Fs8 rfl
  show WS k 24 [(0, .ref (A 0)), (1, .int (Int32.ofInt u)), (2, .int (Int32.ofInt v)), (3, .int (Int32.ofInt w)), (4, .int (Int32.ofInt p))] [.int (Int32.ofInt e9)] (Wd A dT s8) (1 + 1) (6 + 6)
  have hP9 : PLQ (ptL U (pcS (pfC s) u) 1 (v : Int).toNat) (iI s 9) s8 := by have z := hps8.1; rw [hIn, show iI s6 9 = iI s 9 by first | (clear hps4 hps2 p3; omega) | (clear hps2 p3; omega) | omega] at z; exact z
  have hX9 : LDX (ptL U (pcS (pfC s) u) 1 (v : Int).toNat) (iI s 9) w e9 := by have z := hps8.2; rw [hIn, show iI s6 9 = iI s 9 by first | (clear hps4 hps2 p3; omega) | (clear hps2 p3; omega) | omega] at z; exact z
  have hR9 := ldx_c hX9 (by first | (clear hps4 hps2 p3; omega) | (clear hps2 p3; omega) | omega)
  have hn9 := ldx_n hX9
  refine z_store X (lv' := [(5, .int (Int32.ofInt e9)), (0, .ref (A 0)), (1, .int (Int32.ofInt u)), (2, .int (Int32.ofInt v)), (3, .int (Int32.ofInt w)), (4, .int (Int32.ofInt p))]) rfl (by decide) (fun _ h => h) (z_load X (x := e9) rfl (List.Mem.head _) (z_const X rfl (z_icmp_eq X (t := 37) rfl rfl hrs8 (by decide) (fun g10 => ?_) (fun g10 => ?_))))
  ·
    refine z_load X (x := e9) rfl (List.Mem.head _) (z_goto X (t := 52) rfl rfl ?_)
    exact w_iret X.1 q hRt rfl (ax_d X (show cdA 173 52 = some (.ireturn, 1, 0, 0, 0) from rfl)) (show (1 + 1) ≤ 2 by decide) (show (6 + 6) ≤ 12 by decide) ⟨_, rfl, Is8, Gs8, Or.inl ⟨e9, rfl, hrs8, ⟨by first | exact ⟨hps2.1, hps2.2⟩ | omega, by first | exact ⟨hps4.1, hps4.2⟩ | omega, ldx_e hX9 hUn (by first | (clear hps4 hps2 p3; omega) | (clear hps2 p3; omega) | omega)⟩⟩⟩
  ·
    refine z_load X (x := p) rfl (List.Mem.tail _ (List.Mem.tail _ (List.Mem.tail _ (List.Mem.tail _ (List.Mem.tail _ (List.Mem.head _)))))) (z_if_ne X (t := 42) rfl rfl ⟨by first | exact oq_bde653e9 p3 | omega, by first | exact oq_4ad2cb8b p3 | omega⟩ (fun g11 => ?_) (fun g11 => ?_))
    ·
      refine z_aload_n X (x := A 0) rfl (List.Mem.tail _ (List.Mem.head _)) (s_getR X 0 rfl (c518_ok rfl) rfl rfl (s_getR X 31 rfl (c518_ok rfl) rfl rfl (z_load X (x := e9) rfl (List.Mem.head _) (z_ald X 40 rfl (c518_ok rfl) rfl (by first | (clear g11 g10 hps4 hps2 p3; omega) | (clear g10 hps4 hps2 p3; omega) | omega) (show e9 < 12 by first | (clear g11 g10 hps4 hps2 p3; omega) | (clear g10 hps4 hps2 p3; omega) | omega) (cbig_ok rfl) ?_))))
      have b12 := bc_34 Is8 (show (e9).toNat < 12 by first | (clear g11 g10 hps4 hps2 p3; omega) | (clear g10 hps4 hps2 p3; omega) | omega)
      exact w_iret X.1 q hRt rfl (ax_d X (show cdA 173 52 = some (.ireturn, 1, 0, 0, 0) from rfl)) (show (1 + 1) ≤ 2 by decide) (show (6 + 6) ≤ 12 by decide) ⟨_, rfl, Is8, Gs8, Or.inl ⟨(iC s8 34 (e9).toNat), rfl, (rng_to _), ⟨by first | exact ⟨hps2.1, hps2.2⟩ | omega, by first | exact ⟨hps4.1, hps4.2⟩ | omega, ldx_e hX9 hUn (Or.inr ⟨by first | (clear g11 g10 hps4 hps2 p3; omega) | (clear g10 hps4 hps2 p3; omega) | omega, Or.inr ⟨by first | (clear g11 g10 hps4 hps2 p3; omega) | (clear g10 hps4 hps2 p3; omega) | omega, hP9 _ (by first | (clear g11 g10 hps4 hps2 p3; omega) | (clear g10 hps4 hps2 p3; omega) | omega)⟩⟩)⟩⟩⟩
    ·
      refine z_load X (x := e9) rfl (List.Mem.head _) (z_goto X (t := 52) rfl rfl ?_)
      exact w_iret X.1 q hRt rfl (ax_d X (show cdA 173 52 = some (.ireturn, 1, 0, 0, 0) from rfl)) (show (1 + 1) ≤ 2 by decide) (show (6 + 6) ≤ 12 by decide) ⟨_, rfl, Is8, Gs8, Or.inl ⟨e9, rfl, hrs8, ⟨by first | exact ⟨hps2.1, hps2.2⟩ | omega, by first | exact ⟨hps4.1, hps4.2⟩ | omega, ldx_e hX9 hUn (by first | (clear g10 hps4 hps2 p3; omega) | (clear hps4 hps2 p3; omega) | omega)⟩⟩⟩
set_option maxRecDepth 4000 in
theorem lw_lead6 (G : GX l s0 D tys a0 dT) {U : AirD} (I : Bd s) (jAIR : AIR s) (jCPL : CPL s) (jCDJ : CDJ U s) (jPMJ : PMJ s) {u v w p : Int} (p0 : rng u) (p1 : rng v) (p2 : rng w) (p3 : p = 0 ∨ p = 1) : CTL l s0 D A dT 347 (rmN 347) [.ref (A 0), .int (Int32.ofInt u), .int (Int32.ofInt v), .int (Int32.ofInt w), .int (Int32.ofInt p), .ref (A 517)] s (fun o t => Bd t ∧ Fm [22, 23] [33, 26, 27, 28, 29, 30, 31, 32, 20, 34, 1460] s t ∧ ∃ e, o = .inl (some (.int (Int32.ofInt e))) ∧ rng e ∧ ((e = 0 ∧ (0 ≤ u ∧ u ≤ 7) ∧ (0 ≤ v ∧ v ≤ 23) ∧ LDE (ptL U (pcS (pfC s) u) 1 (v : Int).toNat) (uN U) w p (iO t)) ∨ (e = 1 ∧ (u < 0 ∨ 7 < u ∨ v < 0 ∨ 23 < v)))) := by
  refine ctL_of G (by decide) (Nat.le_of_ble_eq_true rfl) (by decide) rfl (fun k X E ET hRt hEx q => ?_)
  show WS k 0 [(0, .ref (A 0)), (1, .int (Int32.ofInt u)), (2, .int (Int32.ofInt v)), (3, .int (Int32.ofInt w)), (4, .int (Int32.ofInt p)), (5, .ref (A 517))] [] _ 0 0
  have F : Fm [22, 23] [33, 26, 27, 28, 29, 30, 31, 32, 20, 34, 1460] s s := fm_rf _ _ s
  have hA := swA_rf A
  refine z_aload X (x := A 517) rfl (List.Mem.tail _ (List.Mem.tail _ (List.Mem.tail _ (List.Mem.tail _ (List.Mem.tail _ (List.Mem.head _)))))) (z_const X rfl (z_aload_n X (x := A 0) rfl (List.Mem.head _) (z_load_n X (x := u) rfl (List.Mem.tail _ (List.Mem.head _)) (z_load_n X (x := v) rfl (List.Mem.tail _ (List.Mem.tail _ (List.Mem.head _))) (z_load_n X (x := w) rfl (List.Mem.tail _ (List.Mem.tail _ (List.Mem.tail _ (List.Mem.head _)))) (z_load X (x := p) rfl (List.Mem.tail _ (List.Mem.tail _ (List.Mem.tail _ (List.Mem.tail _ (List.Mem.head _))))) (z_callV X 0 (rm := rmN 173) (As := [.int (Int32.ofInt u), .int (Int32.ofInt v), .int (Int32.ofInt w), .int (Int32.ofInt p)]) (st := [.int (Int32.ofInt 0), .ref (A 517)]) rfl rfl (by decide) rfl (by rw [E.1, E.2.1, E.2.2.1]; exact cs_lead6 G I jAIR jCPL jCDJ jPMJ (by first | (clear p3; omega) | omega) (by first | (clear p3; omega) | omega) (by first | (clear p3; omega) | omega) (by first | (clear p3; omega) | omega)) ⟨by rw [E.2.2.2]; exact (show (rmN 173).frames + 1 ≤ (rmN 347).frames by decide), by rw [E.2.2.2]; exact (show 8 + (mNL (miB 173) + 11) + (rmN 173).locals ≤ (rmN 347).locals by decide), by rw [E.2.2.2]; exact (show 0 + (rmN 173).cells ≤ (rmN 347).cells by decide), by rw [E.2.2.2]; exact (show 0 + (rmN 173).slots ≤ (rmN 347).slots by decide)⟩ (Nat.le_of_ble_eq_true rfl) (fun vv s1 hq => ?_) (fun ee s1 hq => ?_))))))))
  rotate_left
  · obtain ⟨Is1, Fs1, (⟨e2, hv, hrs1, hps1⟩ | ⟨xx, hv, hps1⟩)⟩ := hq
    · cases hv
    · cases hv
      rcases (show xx = 0 by omega) with gx
      ·
        subst gx
        have Gs1 := fm_tq F Fs1 rfl rfl
        refine (hEx 9 0).2 17 rfl _ _ _ _ _ (fun q1 => ?_)
        show WS k 17 [(0, .ref (A 0)), (1, .int (Int32.ofInt u)), (2, .int (Int32.ofInt v)), (3, .int (Int32.ofInt w)), (4, .int (Int32.ofInt p)), (5, .ref (A 517))] [.ref q1] (Wd A dT s1) 2 12
        refine z_astore X (lv' := [(6, .ref q1), (0, .ref (A 0)), (1, .int (Int32.ofInt u)), (2, .int (Int32.ofInt v)), (3, .int (Int32.ofInt w)), (4, .int (Int32.ofInt p)), (5, .ref (A 517))]) rfl (by decide) (fun _ h => h) (z_const X rfl ?_)
        exact w_iret X.1 q hRt rfl (ax_d X (show cdA 347 20 = some (.ireturn, 1, 0, 0, 0) from rfl)) (show 2 ≤ 2 by decide) (show 12 ≤ 12 by decide) ⟨A, _, hA, rfl, Is1, Gs1, 1, rfl, (by decide), Or.inr ⟨by decide, by first | (clear p3; omega) | omega⟩⟩
  obtain ⟨Is1, Fs1, (⟨e2, hv, hrs1, hps1⟩ | ⟨xx, hv, hps1⟩)⟩ := hq
  rotate_left
  · cases hv
  cases hv
  have Gs1 := fm_tq F Fs1 rfl rfl
  show WS k 12 [(0, .ref (A 0)), (1, .int (Int32.ofInt u)), (2, .int (Int32.ofInt v)), (3, .int (Int32.ofInt w)), (4, .int (Int32.ofInt p)), (5, .ref (A 517))] [.int (Int32.ofInt e2), .int (Int32.ofInt 0), .ref (A 517)] (Wd A dT s1) 2 12
  refine w_i2l X.1 (ax_d X (show cdA 347 12 = some (.i2l, 1, 0, 0, 0) from rfl)) (z_last X 517 rfl (c518_ok rfl) rfl (by first | (clear hps1 p3; omega) | (clear p3; omega) | omega) (show 0 < 1 by first | (clear hps1 p3; omega) | (clear p3; omega) | omega) (cbig_ok rfl) (wd_gen (fun s3 hs3 => ?_)))
  have Is3 : Bd s3 := eqB hs3 (bd_D Is1)
  have Fs3 : Fm [22, 23] [33, 26, 27, 28, 29, 30, 31, 32, 20, 34, 1460] s s3 := by rw [hs3]; exact fm_D Gs1 (show 460 + 1000 ∈ _ by decide)
  have oos3 : iO s3 = e2 := by rw [hs3]; exact iO_u (by first | (clear hps1 p3; omega) | (clear p3; omega) | omega)
  refine z_goto X (t := 21) rfl rfl (z_const X rfl ?_)
  exact w_iret X.1 q hRt rfl (ax_d X (show cdA 347 22 = some (.ireturn, 1, 0, 0, 0) from rfl)) (show 2 ≤ 2 by decide) (show 12 ≤ 12 by decide) ⟨A, _, hA, rfl, Is3, Fs3, 0, rfl, (by decide), Or.inl ⟨by decide, by first | (clear hps1 p3; omega) | (clear p3; omega) | omega, by first | (clear hps1 p3; omega) | (clear p3; omega) | omega, by rw [show iO s3 = e2 by first | (clear hps1 p3; omega) | (clear p3; omega) | omega]; exact hps1.2.2⟩⟩
set_option maxRecDepth 4000 in
theorem k_lead6 (G : GX l s0 D tys a0 dT) {U : AirD} (I : Bd s) (jRLx : RLx s) (jMDJ : MDJ U s) {x y z w : Int} (p0 : rng x) (p1 : rng y) (p2 : rng z) (p3 : w = 0 ∨ w = 1) (p4 : iI s 89 = 1) : CT l s0 D A dT 290 (rmN 290) [.ref (A 179), .int (Int32.ofInt x), .int (Int32.ofInt y), .int (Int32.ofInt z), .int (Int32.ofInt w)] s (fun o t => Bd t ∧ Fm [73, 77, 75, 78, 79, 80, 81] [161, 202, 203, 204, 205, 206, 207, 208, 209, 210, 211, 212, 213, 214, 215, 216, 217, 218, 219, 220, 221, 222, 223, 224, 225, 226, 227, 230] s t ∧ RLx t ∧ ∃ e, o = .inl (some (.int (Int32.ofInt e))) ∧ rng e ∧ (((0 ≤ x ∧ x ≤ 7) ∧ (0 ≤ y ∧ y ≤ 23) ∧ iI t 73 = 0 ∧ LDE (ptL U (pcS (pfM s) x) 1 (y : Int).toNat) (uN U) z w e) ∨ ((x < 0 ∨ 7 < x ∨ y < 0 ∨ 23 < y) ∧ iI t 73 = 1))) := by
  refine ct_of G (by decide) (Nat.le_of_ble_eq_true rfl) (fun k X E hRt hXt q => ?_)
  show WS k 0 [(0, .ref (A 179)), (1, .int (Int32.ofInt x)), (2, .int (Int32.ofInt y)), (3, .int (Int32.ofInt z)), (4, .int (Int32.ofInt w))] [] _ 0 0
  have F : Fm [73, 77, 75, 78, 79, 80, 81] [161, 202, 203, 204, 205, 206, 207, 208, 209, 210, 211, 212, 213, 214, 215, 216, 217, 218, 219, 220, 221, 222, 223, 224, 225, 226, 227, 230] s s := fm_rf _ _ s
  have hUn : iI s 90 = (uN U : Int) := jMDJ.1.1
  have b1 := bi_73 I
  have b2 := bi_90 I
  have b3 := bi_89 I
  have L65 : ∀ (q1 : Nat) (n : Nat) (t : PS) (zv wv al a : Int), Bd t → FmX [73, 77, 75, 78, 79, 80, 81] [161, 202, 203, 204, 205, 206, 207, 208, 209, 210, 211, 212, 213, 214, 215, 216, 217, 218, 219, 220, 221, 222, 223, 224, 225, 226, 227, 230] s t → RLx t → MDJ U t → NW t → NWL t → NWE U t → (EXl (pX s) (dT 0) [(q1, 12)] t ∧ NMQ (uM U (y : Int).toNat) (uN U : Int) t ∧ inS t = (pcS (pfM s) x) ∧ Int32.ofInt al = ldH U (pcS (pfM s) x) 1 (y : Int).toNat (-1) ∧ PXQ (ptL U (pcS (pfM s) x) 1 (y : Int).toNat) ((pX s).length + 0) a t) → ((zv = z ∧ rng z) ∧ (wv = w ∧ (w = 0 ∨ w = 1)) ∧ ((0 ≤ x ∧ x ≤ 7) ∧ 0 ≤ y ∧ y ≤ 23) ∧ iI t 73 = 0 ∧ iI t 89 = 1 ∧ iI t 90 = iI s 90 ∧ rng al ∧ 0 ≤ a ∧ a ≤ iI s 90) → (12 - a : Int).toNat < n → (∀ (t' : PS) (a' : Int), Bd t' → FmX [73, 77, 75, 78, 79, 80, 81] [161, 202, 203, 204, 205, 206, 207, 208, 209, 210, 211, 212, 213, 214, 215, 216, 217, 218, 219, 220, 221, 222, 223, 224, 225, 226, 227, 230] s t' → RLx t' → MDJ U t' → NW t' → NWL t' → NWE U t' → (EXl (pX s) (dT 0) [(q1, 12)] t' ∧ NMQ (uM U (y : Int).toNat) (uN U : Int) t' ∧ inS t' = (pcS (pfM s) x) ∧ Int32.ofInt al = ldH U (pcS (pfM s) x) 1 (y : Int).toNat (-1) ∧ PXQ (ptL U (pcS (pfM s) x) 1 (y : Int).toNat) ((pX s).length + 0) a' t') → ((zv = z ∧ rng z) ∧ (wv = w ∧ (w = 0 ∨ w = 1)) ∧ ((0 ≤ x ∧ x ≤ 7) ∧ 0 ≤ y ∧ y ≤ 23) ∧ iI t' 73 = 0 ∧ iI t' 89 = 1 ∧ iI t' 90 = iI s 90 ∧ a' = iI s 90) → WS k 118 [(0, .ref (A 179)), (6, .ref q1), (3, .int (Int32.ofInt zv)), (4, .int (Int32.ofInt wv)), (5, .int (Int32.ofInt al)), (7, .int (Int32.ofInt a'))] [] (Wd A dT t') 1 12) → WS k 65 [(0, .ref (A 179)), (6, .ref q1), (3, .int (Int32.ofInt zv)), (4, .int (Int32.ofInt wv)), (5, .int (Int32.ofInt al)), (7, .int (Int32.ofInt a))] [] (Wd A dT t) 1 12 := by
    intro q1 n
    induction n with
    | zero =>
      intro t zv wv al a I F jjRLx jjMDJ jjNW jjNWL jjNWE hq hi hm kx
      exact absurd hm (Nat.not_lt_zero _)
    | succ n ih =>
      intro t zv wv al a I F jjRLx jjMDJ jjNW jjNWL jjNWE hq hi hm kx
      have b1001 := bi_73 I
      have b1002 := bi_90 I
      have b1003 := bi_89 I
      refine z_load X (x := a) rfl (List.Mem.tail _ (List.Mem.tail _ (List.Mem.tail _ (List.Mem.tail _ (List.Mem.tail _ (List.Mem.head _)))))) (z_aload_n X (x := A 179) rfl (List.Mem.head _) (z_getI X 179 rfl (c518_ok rfl) rfl rfl ?_))
      have b1004 := bi_90 I
      refine z_icmp_ge X (t := 118) rfl rfl ⟨by first | exact oq_fa4e5087 hi.2.2.2.2.2.2.2.1 | omega, by first | exact oq_39d2cc6e hi.2.2.2.2.2.2.2.2 b2.2 | omega⟩ (rng_to _) (fun g1005 => ?_) (fun g1005 => ?_)
      ·
        refine WS_pq [0, 1, 2, 3, 4, 5] (lv' := [(0, .ref (A 179)), (6, .ref q1), (3, .int (Int32.ofInt zv)), (4, .int (Int32.ofInt wv)), (5, .int (Int32.ofInt al)), (7, .int (Int32.ofInt a))]) rfl ?_
        exact kx _ a I F jjRLx jjMDJ jjNW jjNWL jjNWE hq (by first | exact ⟨And.intro (hi.1.1) (And.intro (hi.1.2.1) (hi.1.2.2)), And.intro (hi.2.1.1) (hi.2.1.2), And.intro (And.intro (hi.2.2.1.1.1) (hi.2.2.1.1.2)) (And.intro (hi.2.2.1.2.1) (hi.2.2.1.2.2)), hi.2.2.2.1, hi.2.2.2.2.1, hi.2.2.2.2.2.1, oq_537ca82a hi.2.2.2.2.2.2.2.2 g1005 hi.2.2.2.2.2.1⟩ | omega)
      ·
        refine z_aload_n X (x := A 179) rfl (List.Mem.head _) (s_getR X 179 rfl (c518_ok rfl) rfl rfl (z_load X (x := a) rfl (List.Mem.tail _ (List.Mem.tail _ (List.Mem.tail _ (List.Mem.tail _ (List.Mem.tail _ (List.Mem.head _)))))) (z_ald X 229 rfl (c518_ok rfl) rfl (by first | exact hi.2.2.2.2.2.2.2.1 | omega) (show a < 12 by first | exact oq_f36e82a8 g1005 b1004.2 | omega) (cbig_ok rfl) ?_)))
        have b1006 := bc_203 I (show (a).toNat < 12 by first | exact oq_2dac6850 g1005 b1004.2 | omega)
        have ar1007 : iC t 203 (a).toNat = iC t 203 (a).toNat := (sam_rf (a := 203) (s := t)) _
        refine z_store X (lv' := [(8, .int (Int32.ofInt (iC t 203 (a).toNat))), (0, .ref (A 179)), (6, .ref q1), (3, .int (Int32.ofInt zv)), (4, .int (Int32.ofInt wv)), (5, .int (Int32.ofInt al)), (7, .int (Int32.ofInt a))]) rfl (by decide) (fun _ h => h) (z_aload_n X (x := A 179) rfl (List.Mem.tail _ (List.Mem.head _)) (s_getR X 179 rfl (c518_ok rfl) rfl rfl (z_load X (x := a) rfl (List.Mem.tail _ (List.Mem.tail _ (List.Mem.tail _ (List.Mem.tail _ (List.Mem.tail _ (List.Mem.tail _ (List.Mem.head _))))))) (z_const X rfl (z_ast X 229 rfl (c518_ok rfl) rfl (by first | exact hi.2.2.2.2.2.2.2.1 | omega) (show a < 12 by first | exact oq_f36e82a8 g1005 b1004.2 | omega) (cbig_ok rfl) (wd_gen (fun s1008 hs1008 => ?_)))))))
        have Is1008 : Bd s1008 := eqB hs1008 (bd_C I (show (0 : Int) ≤ 0 ∧ 0 ≤ 50 by first | exact ⟨by decide, by decide⟩ | omega) (by decide))
        have Fs1008 := fx_C (i := (a).toNat) (x := Int32.ofInt 0) F (show 203 ∈ _ by decide)
        rw [← hs1008] at Fs1008
        have ws1008_73 : iI s1008 73 = iI t 73 := eqI hs1008 rfl
        have ws1008_90 : iI s1008 90 = iI t 90 := eqI hs1008 rfl
        have ws1008_89 : iI s1008 89 = iI t 89 := eqI hs1008 rfl
        have aws1008_203 : UPD 203 (a) 0 t s1008 := by rw [hs1008]; exact upd_put (sam_rf (a := 203) (s := t)) (by decide)
        have aws1008_230 : SAM 230 t s1008 := by rw [hs1008]; exact sam_C (by decide) (sam_rf (a := 230) (s := t))
        have fs1008 : Fm [] [203] t s1008 := by rw [hs1008]; exact fm_C (fm_rf _ _ _) (show 203 ∈ _ by decide)
        have JRLx_s1008 : RLx s1008 := RLx_fm fs1008 (by decide) jjRLx
        have JMDJ_s1008 : MDJ U s1008 := MDJ_fm fs1008 (by decide) jjMDJ
        have JNW_s1008 : NW s1008 := NW_fm fs1008 (by decide) jjNW
        have JNWL_s1008 : NWL s1008 := NWL_fm fs1008 (by decide) jjNWL
        have JNWE_s1008 : NWE U s1008 := NWE_fm fs1008 (by decide) jjNWE
        have JEX_s1008 : EXl (pX s) (dT 0) [(q1, 12)] s1008 := EX_fm fs1008 hq.1
        have hI1 : inS s1008 = (pcS (pfM s) x) := by rw [← hq.2.2.1]; exact ins_s aws1008_230
        have hN1 : NMQ (moW U (y : Int).toNat a) (uN U : Int) s1008 := nmq_0 hq.2.1 aws1008_203 (by first | (clear p3; omega) | omega)
        refine z_aload X (x := q1) rfl (List.Mem.tail _ (List.Mem.tail _ (List.Mem.head _))) (z_load X (x := a) rfl (List.Mem.tail _ (List.Mem.tail _ (List.Mem.tail _ (List.Mem.tail _ (List.Mem.tail _ (List.Mem.tail _ (List.Mem.head _))))))) (z_load X (x := al) rfl (List.Mem.tail _ (List.Mem.tail _ (List.Mem.tail _ (List.Mem.tail _ (List.Mem.tail _ (List.Mem.head _)))))) (z_aload_n X (x := A 179) rfl (List.Mem.tail _ (List.Mem.head _)) (z_callV X 179 (rm := rmN 228) (As := []) (st := [.int (Int32.ofInt al), .int (Int32.ofInt a), .ref q1]) rfl rfl (by decide) rfl (by rw [E.1, E.2.1, E.2.2.1]; exact k_load6 G Is1008 JNW_s1008 JNWL_s1008 JMDJ_s1008 JNWE_s1008 hN1 ) ⟨by rw [E.2.2.2]; exact (show (rmN 228).frames + 1 ≤ (rmN 290).frames by decide), by rw [E.2.2.2]; exact (show 8 + (mNL (miB 228) + 11) + (rmN 228).locals ≤ (rmN 290).locals by decide), by rw [E.2.2.2]; exact (show 1 + 0 ≤ 1 by decide), by rw [E.2.2.2]; exact (show 12 + 0 ≤ 12 by decide)⟩ (Nat.le_of_ble_eq_true rfl) (fun vv s1009 hq => ?_) (fun ee s1009 hq => ?_)))))
        rotate_left
        · obtain ⟨Is1009, Fs1009, e1010, hv, hrs1009, hps1009⟩ := hq; cases hv
        obtain ⟨Is1009, Fs1009, e1010, hv, hrs1009, hps1009⟩ := hq
        cases hv
        have Gs1009 := fx_ts Fs1008 Fs1009 (by decide) (by decide)
        have JRLx_s1009 : RLx s1009 := RLx_fm Fs1009 (by decide) JRLx_s1008
        have JMDJ_s1009 : MDJ U s1009 := MDJ_fm Fs1009 (by decide) JMDJ_s1008
        have JNW_s1009 : NW s1009 := NW_fm Fs1009 (by decide) JNW_s1008
        have JNWL_s1009 : NWL s1009 := NWL_fm Fs1009 (by decide) JNWL_s1008
        have JNWE_s1009 : NWE U s1009 := NWE_fm Fs1009 (by decide) JNWE_s1008
        have JEX_s1009 : EXl (pX s) (dT 0) [(q1, 12)] s1009 := EX_fm Fs1009 JEX_s1008
        have ws1009_73 : iI s1009 73 = iI s1008 73 := fm_iq Fs1009 rfl
        have ws1009_90 : iI s1009 90 = iI s1008 90 := fm_iq Fs1009 rfl
        have ws1009_89 : iI s1009 89 = iI s1008 89 := fm_iq Fs1009 rfl
        have aws1009_203 : SAM 203 s1008 s1009 := sam_ts (sam_rf (a := 203) (s := s1008)) (sam_fm Fs1009 (by decide))
        have aws1009_230 : SAM 230 s1008 s1009 := sam_ts (sam_rf (a := 230) (s := s1008)) (sam_fm Fs1009 (by decide))
        show WS k 101 [(8, .int (Int32.ofInt (iC t 203 (a).toNat))), (0, .ref (A 179)), (6, .ref q1), (3, .int (Int32.ofInt zv)), (4, .int (Int32.ofInt wv)), (5, .int (Int32.ofInt al)), (7, .int (Int32.ofInt a))] [.int (Int32.ofInt e1010), .int (Int32.ofInt al), .int (Int32.ofInt a), .ref q1] (Wd A dT s1009) 1 12
        have hl1 : Int32.ofInt e1010 = ldH U (pcS (pfM s) x) 1 (y : Int).toNat a := by unfold ldH; rw [← hI1, ← (show iI s1008 89 = 1 by first | (clear hps1009 p3; omega) | (clear p3; omega) | omega)]; exact hps1009.1
        refine z_sub X rfl (z_anyV (fun y1011 hy1011 ey1011 => ?_))
        refine z_xastE X JEX_s1009 0 rfl rfl (by first | exact hi.2.2.2.2.2.2.2.1 | omega) (show a < 12 by first | exact oq_f36e82a8 g1005 b1004.2 | omega) (by decide) (fun ps1012 es1012 fs1012 => ?_)
        have Is1012 : Bd (sx s1009 ps1012) := Is1009
        have Fs1012 : FmX [73, 77, 75, 78, 79, 80, 81] [161, 202, 203, 204, 205, 206, 207, 208, 209, 210, 211, 212, 213, 214, 215, 216, 217, 218, 219, 220, 221, 222, 223, 224, 225, 226, 227, 230] s (sx s1009 ps1012) := Gs1009
        have ws1012_73 : iI (sx s1009 ps1012) 73 = iI s1009 73 := rfl
        have ws1012_90 : iI (sx s1009 ps1012) 90 = iI s1009 90 := rfl
        have ws1012_89 : iI (sx s1009 ps1012) 89 = iI s1009 89 := rfl
        have JRLx_s1012 : RLx (sx s1009 ps1012) := JRLx_s1009
        have JMDJ_s1012 : MDJ U (sx s1009 ps1012) := JMDJ_s1009
        have JNW_s1012 : NW (sx s1009 ps1012) := JNW_s1009
        have JNWL_s1012 : NWL (sx s1009 ps1012) := JNWL_s1009
        have JNWE_s1012 : NWE U (sx s1009 ps1012) := JNWE_s1009
        have aws1012_203 : SAM 203 s1008 (sx s1009 ps1012) := aws1009_203
        have aws1012_230 : SAM 230 s1008 (sx s1009 ps1012) := aws1009_230
        generalize sx s1009 ps1012 = s1012 at *
        have hX : ∀ j : Nat, xF s1012 ((pX s).length + 0) j = if j = (a : Int).toNat then Int32.ofInt y1011 else xF t ((pX s).length + 0) j := fun j => by have z := fs1012 0 j (show 0 < 1 from Nat.zero_lt_one); rw [z]; by_cases c : j = (a : Int).toNat; (· rw [if_pos ⟨rfl, c⟩, if_pos c]); (· rw [if_neg (fun w => c w.2), if_neg c, xF_fm Fs1009, hs1008]; rfl)
        refine z_aload_n X (x := A 179) rfl (List.Mem.tail _ (List.Mem.head _)) (s_getR X 179 rfl (c518_ok rfl) rfl rfl (z_load X (x := a) rfl (List.Mem.tail _ (List.Mem.tail _ (List.Mem.tail _ (List.Mem.tail _ (List.Mem.tail _ (List.Mem.tail _ (List.Mem.head _))))))) (z_load X (x := (iC t 203 (a).toNat)) rfl (List.Mem.head _) (z_ast X 229 rfl (c518_ok rfl) rfl (by first | exact hi.2.2.2.2.2.2.2.1 | omega) (show a < 12 by first | exact oq_f36e82a8 g1005 b1004.2 | omega) (cbig_ok rfl) (wd_gen (fun s1013 hs1013 => ?_))))))
        have Is1013 : Bd s1013 := eqB hs1013 (bd_C Is1012 (show (0 : Int) ≤ (iC t 203 (a).toNat) ∧ (iC t 203 (a).toNat) ≤ 50 by first | exact ⟨b1006.1, b1006.2⟩ | omega) (rng_to _))
        have Fs1013 := fx_C (i := (a).toNat) (x := Int32.ofInt (iC t 203 (a).toNat)) Fs1012 (show 203 ∈ _ by decide)
        rw [← hs1013] at Fs1013
        have ws1013_73 : iI s1013 73 = iI s1012 73 := eqI hs1013 rfl
        have ws1013_90 : iI s1013 90 = iI s1012 90 := eqI hs1013 rfl
        have ws1013_89 : iI s1013 89 = iI s1012 89 := eqI hs1013 rfl
        have aws1013_203 : UPD 203 (a) (iC t 203 (a).toNat) s1008 s1013 := by rw [hs1013]; exact upd_put aws1012_203 (rng_to _)
        have aws1013_230 : SAM 230 s1008 s1013 := by rw [hs1013]; exact sam_C (by decide) aws1012_230
        have fs1013 : Fm [] [203] s1012 s1013 := by rw [hs1013]; exact fm_C (fm_rf _ _ _) (show 203 ∈ _ by decide)
        have JRLx_s1013 : RLx s1013 := RLx_fm fs1013 (by decide) JRLx_s1012
        have JMDJ_s1013 : MDJ U s1013 := MDJ_fm fs1013 (by decide) JMDJ_s1012
        have JNW_s1013 : NW s1013 := NW_fm fs1013 (by decide) JNW_s1012
        have JNWL_s1013 : NWL s1013 := NWL_fm fs1013 (by decide) JNWL_s1012
        have JNWE_s1013 : NWE U s1013 := NWE_fm fs1013 (by decide) JNWE_s1012
        have JEX_s1013 : EXl (pX s) (dT 0) [(q1, 12)] s1013 := EX_fm fs1013 es1012
        refine z_inc X (x := a) (lv' := [(7, .int (Int32.ofInt (a + 1))), (8, .int (Int32.ofInt (iC t 203 (a).toNat))), (0, .ref (A 179)), (6, .ref q1), (3, .int (Int32.ofInt zv)), (4, .int (Int32.ofInt wv)), (5, .int (Int32.ofInt al))]) rfl (by decide) (List.Mem.tail _ (List.Mem.tail _ (List.Mem.tail _ (List.Mem.tail _ (List.Mem.tail _ (List.Mem.tail _ (List.Mem.head _))))))) (fun _ h => h) (z_goto X (t := 65) rfl rfl (WS_pq [2, 3, 4, 5, 6, 0] (lv' := [(0, .ref (A 179)), (6, .ref q1), (3, .int (Int32.ofInt zv)), (4, .int (Int32.ofInt wv)), (5, .int (Int32.ofInt al)), (7, .int (Int32.ofInt (a + 1)))]) rfl ?_))
        exact ih _ zv wv al (a + 1) Is1013 Fs1013 JRLx_s1013 JMDJ_s1013 JNW_s1013 JNWL_s1013 JNWE_s1013 ⟨JEX_s1013, nmq_b hq.2.1 aws1008_203 aws1013_203 rfl, by rw [ins_s aws1013_230]; exact hI1, hq.2.2.2.1, pxq_up hq.2.2.2.2 (fun j => (show xF s1013 ((pX s).length + 0) j = xF s1012 ((pX s).length + 0) j from by rw [hs1013]; rfl).trans (hX j)) (by first | (clear hps1009 p3; omega) | (clear p3; omega) | omega) hy1011 (ptl_of hq.2.2.2.1 hl1 ey1011 hy1011 (by first | (clear hps1009 p3; omega) | (clear p3; omega) | omega))⟩ (by first | (clear hps1009 p3; omega) | (clear p3; omega) | omega) (by first | exact qk_me hm (by decide) (oq_b575e8c1 g1005 b1004.2) | omega) kx
  have L136 : ∀ (q1 : Nat) (n : Nat) (t : PS) (zv wv a ah b : Int), Bd t → FmX [73, 77, 75, 78, 79, 80, 81] [161, 202, 203, 204, 205, 206, 207, 208, 209, 210, 211, 212, 213, 214, 215, 216, 217, 218, 219, 220, 221, 222, 223, 224, 225, 226, 227, 230] s t → RLx t → MDJ U t → (EXl (pX s) (dT 0) [(q1, 12)] t ∧ PXQ (ptL U (pcS (pfM s) x) 1 (y : Int).toNat) ((pX s).length + 0) (iI s 90) t ∧ LDQ (ptL U (pcS (pfM s) x) 1 (y : Int).toNat) (uN U) z a ∧ ah = sm (fun s' => i01 (ahP (ptL U (pcS (pfM s) x) 1 (y : Int).toNat) (a : Int).toNat s')) (b : Int).toNat) → ((zv = z ∧ rng z) ∧ (wv = w ∧ (w = 0 ∨ w = 1)) ∧ ((0 ≤ x ∧ x ≤ 7) ∧ 0 ≤ y ∧ y ≤ 23) ∧ iI t 73 = 0 ∧ iI t 89 = 1 ∧ iI t 90 = iI s 90 ∧ (0 ≤ a ∧ a < iI s 90) ∧ (0 ≤ ah ∧ ah ≤ b) ∧ b ≤ iI s 90) → (12 - b : Int).toNat < n → (∀ (t' : PS) (ah' b' : Int), Bd t' → FmX [73, 77, 75, 78, 79, 80, 81] [161, 202, 203, 204, 205, 206, 207, 208, 209, 210, 211, 212, 213, 214, 215, 216, 217, 218, 219, 220, 221, 222, 223, 224, 225, 226, 227, 230] s t' → RLx t' → MDJ U t' → (EXl (pX s) (dT 0) [(q1, 12)] t' ∧ PXQ (ptL U (pcS (pfM s) x) 1 (y : Int).toNat) ((pX s).length + 0) (iI s 90) t' ∧ LDQ (ptL U (pcS (pfM s) x) 1 (y : Int).toNat) (uN U) z a ∧ ah' = sm (fun s' => i01 (ahP (ptL U (pcS (pfM s) x) 1 (y : Int).toNat) (a : Int).toNat s')) (b' : Int).toNat) → ((zv = z ∧ rng z) ∧ (wv = w ∧ (w = 0 ∨ w = 1)) ∧ ((0 ≤ x ∧ x ≤ 7) ∧ 0 ≤ y ∧ y ≤ 23) ∧ iI t' 73 = 0 ∧ iI t' 89 = 1 ∧ iI t' 90 = iI s 90 ∧ (0 ≤ a ∧ a < iI s 90) ∧ (0 ≤ ah' ∧ ah' ≤ 12) ∧ b' = iI s 90) → WS k 202 [(0, .ref (A 179)), (6, .ref q1), (3, .int (Int32.ofInt zv)), (4, .int (Int32.ofInt wv)), (7, .int (Int32.ofInt a)), (8, .int (Int32.ofInt ah')), (9, .int (Int32.ofInt b'))] [] (Wd A dT t') 1 12) → WS k 136 [(0, .ref (A 179)), (6, .ref q1), (3, .int (Int32.ofInt zv)), (4, .int (Int32.ofInt wv)), (7, .int (Int32.ofInt a)), (8, .int (Int32.ofInt ah)), (9, .int (Int32.ofInt b))] [] (Wd A dT t) 1 12 := by
    intro q1 n
    induction n with
    | zero =>
      intro t zv wv a ah b I F jjRLx jjMDJ hq hi hm kx
      exact absurd hm (Nat.not_lt_zero _)
    | succ n ih =>
      intro t zv wv a ah b I F jjRLx jjMDJ hq hi hm kx
      have b2001 := bi_73 I
      have b2002 := bi_90 I
      have b2003 := bi_89 I
      refine z_load X (x := b) rfl (List.Mem.tail _ (List.Mem.tail _ (List.Mem.tail _ (List.Mem.tail _ (List.Mem.tail _ (List.Mem.tail _ (List.Mem.head _))))))) (z_aload_n X (x := A 179) rfl (List.Mem.head _) (z_getI X 179 rfl (c518_ok rfl) rfl rfl ?_))
      have b2004 := bi_90 I
      refine z_icmp_ge X (t := 202) rfl rfl ⟨by first | exact oq_e001bc0d hi.2.2.2.2.2.2.2.1.2 hi.2.2.2.2.2.2.2.1.1 | omega, by first | exact oq_39d2cc6e hi.2.2.2.2.2.2.2.2 b2.2 | omega⟩ (rng_to _) (fun g2005 => ?_) (fun g2005 => ?_)
      ·
        refine WS_pq [0, 1, 2, 3, 4, 5, 6] (lv' := [(0, .ref (A 179)), (6, .ref q1), (3, .int (Int32.ofInt zv)), (4, .int (Int32.ofInt wv)), (7, .int (Int32.ofInt a)), (8, .int (Int32.ofInt ah)), (9, .int (Int32.ofInt b))]) rfl ?_
        exact kx _ ah b I F jjRLx jjMDJ hq (by first | exact ⟨And.intro (hi.1.1) (And.intro (hi.1.2.1) (hi.1.2.2)), And.intro (hi.2.1.1) (hi.2.1.2), And.intro (And.intro (hi.2.2.1.1.1) (hi.2.2.1.1.2)) (And.intro (hi.2.2.1.2.1) (hi.2.2.1.2.2)), hi.2.2.2.1, hi.2.2.2.2.1, hi.2.2.2.2.2.1, And.intro (hi.2.2.2.2.2.2.1.1) (hi.2.2.2.2.2.2.1.2), And.intro (hi.2.2.2.2.2.2.2.1.1) (oq_1331527b hi.2.2.2.2.2.2.2.1.2 hi.2.2.2.2.2.2.2.2 b2.2), oq_537ca82a hi.2.2.2.2.2.2.2.2 g2005 hi.2.2.2.2.2.1⟩ | omega)
      ·
        have v1 : xV ((pX s).length + 0) t (b : Int).toNat = (ptL U (pcS (pfM s) x) 1 (y : Int).toNat) (b : Int).toNat := hq.2.1 _ (by first | (clear p3; omega) | omega)
        have v2 : xV ((pX s).length + 0) t (a : Int).toNat = (ptL U (pcS (pfM s) x) 1 (y : Int).toNat) (a : Int).toNat := hq.2.1 _ (by first | (clear p3; omega) | omega)
        refine z_load X (x := ah) rfl (List.Mem.tail _ (List.Mem.tail _ (List.Mem.tail _ (List.Mem.tail _ (List.Mem.tail _ (List.Mem.head _)))))) (z_aload X (x := q1) rfl (List.Mem.tail _ (List.Mem.head _)) (z_load X (x := b) rfl (List.Mem.tail _ (List.Mem.tail _ (List.Mem.tail _ (List.Mem.tail _ (List.Mem.tail _ (List.Mem.tail _ (List.Mem.head _))))))) (z_xaldE X hq.1 0 rfl rfl (by first | exact oq_12a1f9e1 hi.2.2.2.2.2.2.2.1.2 hi.2.2.2.2.2.2.2.1.1 | omega) (show b < 12 by first | exact oq_f36e82a8 g2005 b2004.2 | omega) (by decide) ?_)))
        have b2006 : rng (xV ((pX s).length + 0) t (b).toNat) := rng_to _
        refine z_if_eq X (t := 192) rfl rfl ⟨by first | exact b2006.1 | omega, by first | exact b2006.2 | omega⟩ (fun g2007 => ?_) (fun g2007 => ?_)
        ·
          refine z_const X rfl (z_add X rfl (z_store X (lv' := [(8, .int (Int32.ofInt (ah + 0))), (0, .ref (A 179)), (6, .ref q1), (3, .int (Int32.ofInt zv)), (4, .int (Int32.ofInt wv)), (7, .int (Int32.ofInt a)), (9, .int (Int32.ofInt b))]) rfl (by decide) (fun _ h => h) (z_inc X (x := b) (lv' := [(9, .int (Int32.ofInt (b + 1))), (8, .int (Int32.ofInt (ah + 0))), (0, .ref (A 179)), (6, .ref q1), (3, .int (Int32.ofInt zv)), (4, .int (Int32.ofInt wv)), (7, .int (Int32.ofInt a))]) rfl (by decide) (List.Mem.tail _ (List.Mem.tail _ (List.Mem.tail _ (List.Mem.tail _ (List.Mem.tail _ (List.Mem.tail _ (List.Mem.head _))))))) (fun _ h => h) (z_goto X (t := 136) rfl rfl (WS_pq [2, 3, 4, 5, 6, 1, 0] (lv' := [(0, .ref (A 179)), (6, .ref q1), (3, .int (Int32.ofInt zv)), (4, .int (Int32.ofInt wv)), (7, .int (Int32.ofInt a)), (8, .int (Int32.ofInt (ah + 0))), (9, .int (Int32.ofInt (b + 1)))]) rfl ?_)))))
          exact ih _ zv wv a (ah + 0) (b + 1) I F jjRLx jjMDJ ⟨hq.1, hq.2.1, hq.2.2.1, smd hq.2.2.2 (by first | (clear p3; omega) | omega) (by show _ = _ + i01 (ahP (ptL U (pcS (pfM s) x) 1 (y : Int).toNat) (a : Int).toNat (b : Int).toNat); rw [i01_f (fun q => by replace q : (ptL U (pcS (pfM s) x) 1 (y : Int).toNat) (b : Int).toNat ≠ 0 ∧ ((ptL U (pcS (pfM s) x) 1 (y : Int).toNat) (a : Int).toNat < (ptL U (pcS (pfM s) x) 1 (y : Int).toNat) (b : Int).toNat ∨ ((ptL U (pcS (pfM s) x) 1 (y : Int).toNat) (b : Int).toNat = (ptL U (pcS (pfM s) x) 1 (y : Int).toNat) (a : Int).toNat ∧ (b : Int).toNat < (a : Int).toNat)) := q; omega)])⟩ (by first | exact ⟨And.intro (hi.1.1) (And.intro (hi.1.2.1) (hi.1.2.2)), And.intro (hi.2.1.1) (hi.2.1.2), And.intro (And.intro (hi.2.2.1.1.1) (hi.2.2.1.1.2)) (And.intro (hi.2.2.1.2.1) (hi.2.2.1.2.2)), hi.2.2.2.1, hi.2.2.2.2.1, hi.2.2.2.2.2.1, And.intro (hi.2.2.2.2.2.2.1.1) (hi.2.2.2.2.2.2.1.2), And.intro (oq_590e7a3f hi.2.2.2.2.2.2.2.1.1) (oq_2d160f3c hi.2.2.2.2.2.2.2.1.2), oq_8a89b3ae g2005 hi.2.2.2.2.2.1⟩ | omega) (by first | exact qk_me hm (by decide) (oq_b575e8c1 g2005 b2004.2) | omega) kx
        ·
          refine z_aload X (x := q1) rfl (List.Mem.tail _ (List.Mem.head _)) (z_load X (x := b) rfl (List.Mem.tail _ (List.Mem.tail _ (List.Mem.tail _ (List.Mem.tail _ (List.Mem.tail _ (List.Mem.tail _ (List.Mem.head _))))))) (z_xaldE X hq.1 0 rfl rfl (by first | exact oq_12a1f9e1 hi.2.2.2.2.2.2.2.1.2 hi.2.2.2.2.2.2.2.1.1 | omega) (show b < 12 by first | exact oq_f36e82a8 g2005 b2004.2 | omega) (by decide) ?_))
          have b2008 : rng (xV ((pX s).length + 0) t (b).toNat) := rng_to _
          refine z_aload X (x := q1) rfl (List.Mem.tail _ (List.Mem.head _)) (z_load X (x := a) rfl (List.Mem.tail _ (List.Mem.tail _ (List.Mem.tail _ (List.Mem.tail _ (List.Mem.head _))))) (z_xaldE X hq.1 0 rfl rfl (by first | exact hi.2.2.2.2.2.2.1.1 | omega) (show a < 12 by first | exact oq_f36e82a8 hi.2.2.2.2.2.2.1.2 b2.2 | omega) (by decide) ?_))
          have b2009 : rng (xV ((pX s).length + 0) t (a).toNat) := rng_to _
          refine z_icmp_gt X (t := 188) rfl rfl ⟨by first | exact b2008.1 | omega, by first | exact b2008.2 | omega⟩ ⟨by first | exact b2009.1 | omega, by first | exact b2009.2 | omega⟩ (fun g2010 => ?_) (fun g2010 => ?_)
          ·
            refine z_const X rfl (z_goto X (t := 193) rfl rfl (z_add X rfl (z_store X (lv' := [(8, .int (Int32.ofInt (ah + 1))), (0, .ref (A 179)), (6, .ref q1), (3, .int (Int32.ofInt zv)), (4, .int (Int32.ofInt wv)), (7, .int (Int32.ofInt a)), (9, .int (Int32.ofInt b))]) rfl (by decide) (fun _ h => h) (z_inc X (x := b) (lv' := [(9, .int (Int32.ofInt (b + 1))), (8, .int (Int32.ofInt (ah + 1))), (0, .ref (A 179)), (6, .ref q1), (3, .int (Int32.ofInt zv)), (4, .int (Int32.ofInt wv)), (7, .int (Int32.ofInt a))]) rfl (by decide) (List.Mem.tail _ (List.Mem.tail _ (List.Mem.tail _ (List.Mem.tail _ (List.Mem.tail _ (List.Mem.tail _ (List.Mem.head _))))))) (fun _ h => h) (z_goto X (t := 136) rfl rfl (WS_pq [2, 3, 4, 5, 6, 1, 0] (lv' := [(0, .ref (A 179)), (6, .ref q1), (3, .int (Int32.ofInt zv)), (4, .int (Int32.ofInt wv)), (7, .int (Int32.ofInt a)), (8, .int (Int32.ofInt (ah + 1))), (9, .int (Int32.ofInt (b + 1)))]) rfl ?_))))))
            exact ih _ zv wv a (ah + 1) (b + 1) I F jjRLx jjMDJ ⟨hq.1, hq.2.1, hq.2.2.1, smd hq.2.2.2 (by first | (clear g2007 p3; omega) | (clear p3; omega) | omega) (by show _ = _ + i01 (ahP (ptL U (pcS (pfM s) x) 1 (y : Int).toNat) (a : Int).toNat (b : Int).toNat); rw [i01_t (show ahP (ptL U (pcS (pfM s) x) 1 (y : Int).toNat) (a : Int).toNat (b : Int).toNat from (show (ptL U (pcS (pfM s) x) 1 (y : Int).toNat) (b : Int).toNat ≠ 0 ∧ ((ptL U (pcS (pfM s) x) 1 (y : Int).toNat) (a : Int).toNat < (ptL U (pcS (pfM s) x) 1 (y : Int).toNat) (b : Int).toNat ∨ ((ptL U (pcS (pfM s) x) 1 (y : Int).toNat) (b : Int).toNat = (ptL U (pcS (pfM s) x) 1 (y : Int).toNat) (a : Int).toNat ∧ (b : Int).toNat < (a : Int).toNat)) by first | (clear g2007 p3; omega) | (clear p3; omega) | omega))])⟩ (by first | exact ⟨And.intro (hi.1.1) (And.intro (hi.1.2.1) (hi.1.2.2)), And.intro (hi.2.1.1) (hi.2.1.2), And.intro (And.intro (hi.2.2.1.1.1) (hi.2.2.1.1.2)) (And.intro (hi.2.2.1.2.1) (hi.2.2.1.2.2)), hi.2.2.2.1, hi.2.2.2.2.1, hi.2.2.2.2.2.1, And.intro (hi.2.2.2.2.2.2.1.1) (hi.2.2.2.2.2.2.1.2), And.intro (oq_54f49eb5 hi.2.2.2.2.2.2.2.1.1) (oq_8d48a029 hi.2.2.2.2.2.2.2.1.2), oq_8a89b3ae g2005 hi.2.2.2.2.2.1⟩ | omega) (by first | exact qk_me hm (by decide) (oq_b575e8c1 g2005 b2004.2) | omega) kx
          ·
            refine z_aload X (x := q1) rfl (List.Mem.tail _ (List.Mem.head _)) (z_load X (x := b) rfl (List.Mem.tail _ (List.Mem.tail _ (List.Mem.tail _ (List.Mem.tail _ (List.Mem.tail _ (List.Mem.tail _ (List.Mem.head _))))))) (z_xaldE X hq.1 0 rfl rfl (by first | exact oq_12a1f9e1 hi.2.2.2.2.2.2.2.1.2 hi.2.2.2.2.2.2.2.1.1 | omega) (show b < 12 by first | exact oq_f36e82a8 g2005 b2004.2 | omega) (by decide) ?_))
            have b2011 : rng (xV ((pX s).length + 0) t (b).toNat) := rng_to _
            refine z_aload X (x := q1) rfl (List.Mem.tail _ (List.Mem.head _)) (z_load X (x := a) rfl (List.Mem.tail _ (List.Mem.tail _ (List.Mem.tail _ (List.Mem.tail _ (List.Mem.head _))))) (z_xaldE X hq.1 0 rfl rfl (by first | exact hi.2.2.2.2.2.2.1.1 | omega) (show a < 12 by first | exact oq_f36e82a8 hi.2.2.2.2.2.2.1.2 b2.2 | omega) (by decide) ?_))
            have b2012 : rng (xV ((pX s).length + 0) t (a).toNat) := rng_to _
            refine z_icmp_ne X (t := 192) rfl rfl ⟨by first | exact b2011.1 | omega, by first | exact b2011.2 | omega⟩ ⟨by first | exact b2012.1 | omega, by first | exact b2012.2 | omega⟩ (fun g2013 => ?_) (fun g2013 => ?_)
            ·
              refine z_const X rfl (z_add X rfl (z_store X (lv' := [(8, .int (Int32.ofInt (ah + 0))), (0, .ref (A 179)), (6, .ref q1), (3, .int (Int32.ofInt zv)), (4, .int (Int32.ofInt wv)), (7, .int (Int32.ofInt a)), (9, .int (Int32.ofInt b))]) rfl (by decide) (fun _ h => h) (z_inc X (x := b) (lv' := [(9, .int (Int32.ofInt (b + 1))), (8, .int (Int32.ofInt (ah + 0))), (0, .ref (A 179)), (6, .ref q1), (3, .int (Int32.ofInt zv)), (4, .int (Int32.ofInt wv)), (7, .int (Int32.ofInt a))]) rfl (by decide) (List.Mem.tail _ (List.Mem.tail _ (List.Mem.tail _ (List.Mem.tail _ (List.Mem.tail _ (List.Mem.tail _ (List.Mem.head _))))))) (fun _ h => h) (z_goto X (t := 136) rfl rfl (WS_pq [2, 3, 4, 5, 6, 1, 0] (lv' := [(0, .ref (A 179)), (6, .ref q1), (3, .int (Int32.ofInt zv)), (4, .int (Int32.ofInt wv)), (7, .int (Int32.ofInt a)), (8, .int (Int32.ofInt (ah + 0))), (9, .int (Int32.ofInt (b + 1)))]) rfl ?_)))))
              exact ih _ zv wv a (ah + 0) (b + 1) I F jjRLx jjMDJ ⟨hq.1, hq.2.1, hq.2.2.1, smd hq.2.2.2 (by first | (clear g2013 g2007 p3; omega) | (clear g2007 p3; omega) | omega) (by show _ = _ + i01 (ahP (ptL U (pcS (pfM s) x) 1 (y : Int).toNat) (a : Int).toNat (b : Int).toNat); rw [i01_f (fun q => by replace q : (ptL U (pcS (pfM s) x) 1 (y : Int).toNat) (b : Int).toNat ≠ 0 ∧ ((ptL U (pcS (pfM s) x) 1 (y : Int).toNat) (a : Int).toNat < (ptL U (pcS (pfM s) x) 1 (y : Int).toNat) (b : Int).toNat ∨ ((ptL U (pcS (pfM s) x) 1 (y : Int).toNat) (b : Int).toNat = (ptL U (pcS (pfM s) x) 1 (y : Int).toNat) (a : Int).toNat ∧ (b : Int).toNat < (a : Int).toNat)) := q; omega)])⟩ (by first | exact ⟨And.intro (hi.1.1) (And.intro (hi.1.2.1) (hi.1.2.2)), And.intro (hi.2.1.1) (hi.2.1.2), And.intro (And.intro (hi.2.2.1.1.1) (hi.2.2.1.1.2)) (And.intro (hi.2.2.1.2.1) (hi.2.2.1.2.2)), hi.2.2.2.1, hi.2.2.2.2.1, hi.2.2.2.2.2.1, And.intro (hi.2.2.2.2.2.2.1.1) (hi.2.2.2.2.2.2.1.2), And.intro (oq_590e7a3f hi.2.2.2.2.2.2.2.1.1) (oq_2d160f3c hi.2.2.2.2.2.2.2.1.2), oq_8a89b3ae g2005 hi.2.2.2.2.2.1⟩ | omega) (by first | exact qk_me hm (by decide) (oq_b575e8c1 g2005 b2004.2) | omega) kx
            ·
              refine z_load X (x := b) rfl (List.Mem.tail _ (List.Mem.tail _ (List.Mem.tail _ (List.Mem.tail _ (List.Mem.tail _ (List.Mem.tail _ (List.Mem.head _))))))) (z_load X (x := a) rfl (List.Mem.tail _ (List.Mem.tail _ (List.Mem.tail _ (List.Mem.tail _ (List.Mem.head _))))) (z_icmp_ge X (t := 192) rfl rfl ⟨by first | exact oq_e001bc0d hi.2.2.2.2.2.2.2.1.2 hi.2.2.2.2.2.2.2.1.1 | omega, by first | exact oq_8be37138 g2005 b2004.2 | omega⟩ ⟨by first | exact oq_fa4e5087 hi.2.2.2.2.2.2.1.1 | omega, by first | exact oq_8be37138 hi.2.2.2.2.2.2.1.2 b2.2 | omega⟩ (fun g2014 => ?_) (fun g2014 => ?_)))
              ·
                refine z_const X rfl (z_add X rfl (z_store X (lv' := [(8, .int (Int32.ofInt (ah + 0))), (0, .ref (A 179)), (6, .ref q1), (3, .int (Int32.ofInt zv)), (4, .int (Int32.ofInt wv)), (7, .int (Int32.ofInt a)), (9, .int (Int32.ofInt b))]) rfl (by decide) (fun _ h => h) (z_inc X (x := b) (lv' := [(9, .int (Int32.ofInt (b + 1))), (8, .int (Int32.ofInt (ah + 0))), (0, .ref (A 179)), (6, .ref q1), (3, .int (Int32.ofInt zv)), (4, .int (Int32.ofInt wv)), (7, .int (Int32.ofInt a))]) rfl (by decide) (List.Mem.tail _ (List.Mem.tail _ (List.Mem.tail _ (List.Mem.tail _ (List.Mem.tail _ (List.Mem.tail _ (List.Mem.head _))))))) (fun _ h => h) (z_goto X (t := 136) rfl rfl (WS_pq [2, 3, 4, 5, 6, 1, 0] (lv' := [(0, .ref (A 179)), (6, .ref q1), (3, .int (Int32.ofInt zv)), (4, .int (Int32.ofInt wv)), (7, .int (Int32.ofInt a)), (8, .int (Int32.ofInt (ah + 0))), (9, .int (Int32.ofInt (b + 1)))]) rfl ?_)))))
                exact ih _ zv wv a (ah + 0) (b + 1) I F jjRLx jjMDJ ⟨hq.1, hq.2.1, hq.2.2.1, smd hq.2.2.2 (by first | (clear g2007 p3; omega) | (clear p3; omega) | omega) (by show _ = _ + i01 (ahP (ptL U (pcS (pfM s) x) 1 (y : Int).toNat) (a : Int).toNat (b : Int).toNat); rw [i01_f (fun q => by replace q : (ptL U (pcS (pfM s) x) 1 (y : Int).toNat) (b : Int).toNat ≠ 0 ∧ ((ptL U (pcS (pfM s) x) 1 (y : Int).toNat) (a : Int).toNat < (ptL U (pcS (pfM s) x) 1 (y : Int).toNat) (b : Int).toNat ∨ ((ptL U (pcS (pfM s) x) 1 (y : Int).toNat) (b : Int).toNat = (ptL U (pcS (pfM s) x) 1 (y : Int).toNat) (a : Int).toNat ∧ (b : Int).toNat < (a : Int).toNat)) := q; omega)])⟩ (by first | exact ⟨And.intro (hi.1.1) (And.intro (hi.1.2.1) (hi.1.2.2)), And.intro (hi.2.1.1) (hi.2.1.2), And.intro (And.intro (hi.2.2.1.1.1) (hi.2.2.1.1.2)) (And.intro (hi.2.2.1.2.1) (hi.2.2.1.2.2)), hi.2.2.2.1, hi.2.2.2.2.1, hi.2.2.2.2.2.1, And.intro (hi.2.2.2.2.2.2.1.1) (hi.2.2.2.2.2.2.1.2), And.intro (oq_590e7a3f hi.2.2.2.2.2.2.2.1.1) (oq_2d160f3c hi.2.2.2.2.2.2.2.1.2), oq_8a89b3ae g2005 hi.2.2.2.2.2.1⟩ | omega) (by first | exact qk_me hm (by decide) (oq_b575e8c1 g2005 b2004.2) | omega) kx
              ·
                refine z_const X rfl (z_goto X (t := 193) rfl rfl (z_add X rfl (z_store X (lv' := [(8, .int (Int32.ofInt (ah + 1))), (0, .ref (A 179)), (6, .ref q1), (3, .int (Int32.ofInt zv)), (4, .int (Int32.ofInt wv)), (7, .int (Int32.ofInt a)), (9, .int (Int32.ofInt b))]) rfl (by decide) (fun _ h => h) (z_inc X (x := b) (lv' := [(9, .int (Int32.ofInt (b + 1))), (8, .int (Int32.ofInt (ah + 1))), (0, .ref (A 179)), (6, .ref q1), (3, .int (Int32.ofInt zv)), (4, .int (Int32.ofInt wv)), (7, .int (Int32.ofInt a))]) rfl (by decide) (List.Mem.tail _ (List.Mem.tail _ (List.Mem.tail _ (List.Mem.tail _ (List.Mem.tail _ (List.Mem.tail _ (List.Mem.head _))))))) (fun _ h => h) (z_goto X (t := 136) rfl rfl (WS_pq [2, 3, 4, 5, 6, 1, 0] (lv' := [(0, .ref (A 179)), (6, .ref q1), (3, .int (Int32.ofInt zv)), (4, .int (Int32.ofInt wv)), (7, .int (Int32.ofInt a)), (8, .int (Int32.ofInt (ah + 1))), (9, .int (Int32.ofInt (b + 1)))]) rfl ?_))))))
                exact ih _ zv wv a (ah + 1) (b + 1) I F jjRLx jjMDJ ⟨hq.1, hq.2.1, hq.2.2.1, smd hq.2.2.2 (by first | (clear g2007 p3; omega) | (clear p3; omega) | omega) (by show _ = _ + i01 (ahP (ptL U (pcS (pfM s) x) 1 (y : Int).toNat) (a : Int).toNat (b : Int).toNat); rw [i01_t (show ahP (ptL U (pcS (pfM s) x) 1 (y : Int).toNat) (a : Int).toNat (b : Int).toNat from (show (ptL U (pcS (pfM s) x) 1 (y : Int).toNat) (b : Int).toNat ≠ 0 ∧ ((ptL U (pcS (pfM s) x) 1 (y : Int).toNat) (a : Int).toNat < (ptL U (pcS (pfM s) x) 1 (y : Int).toNat) (b : Int).toNat ∨ ((ptL U (pcS (pfM s) x) 1 (y : Int).toNat) (b : Int).toNat = (ptL U (pcS (pfM s) x) 1 (y : Int).toNat) (a : Int).toNat ∧ (b : Int).toNat < (a : Int).toNat)) by first | (clear g2007 p3; omega) | (clear p3; omega) | omega))])⟩ (by first | exact ⟨And.intro (hi.1.1) (And.intro (hi.1.2.1) (hi.1.2.2)), And.intro (hi.2.1.1) (hi.2.1.2), And.intro (And.intro (hi.2.2.1.1.1) (hi.2.2.1.1.2)) (And.intro (hi.2.2.1.2.1) (hi.2.2.1.2.2)), hi.2.2.2.1, hi.2.2.2.2.1, hi.2.2.2.2.2.1, And.intro (hi.2.2.2.2.2.2.1.1) (hi.2.2.2.2.2.2.1.2), And.intro (oq_54f49eb5 hi.2.2.2.2.2.2.2.1.1) (oq_8d48a029 hi.2.2.2.2.2.2.2.1.2), oq_9b864930 g2014 hi.2.2.2.2.2.2.1.2⟩ | omega) (by first | exact qk_me hm (by decide) (oq_b575e8c1 g2005 b2004.2) | omega) kx
  have L121 : ∀ (q1 : Nat) (n : Nat) (t : PS) (zv wv a : Int), Bd t → FmX [73, 77, 75, 78, 79, 80, 81] [161, 202, 203, 204, 205, 206, 207, 208, 209, 210, 211, 212, 213, 214, 215, 216, 217, 218, 219, 220, 221, 222, 223, 224, 225, 226, 227, 230] s t → RLx t → MDJ U t → (EXl (pX s) (dT 0) [(q1, 12)] t ∧ PXQ (ptL U (pcS (pfM s) x) 1 (y : Int).toNat) ((pX s).length + 0) (iI s 90) t ∧ LDQ (ptL U (pcS (pfM s) x) 1 (y : Int).toNat) (uN U) z a) → ((zv = z ∧ rng z) ∧ (wv = w ∧ (w = 0 ∨ w = 1)) ∧ ((0 ≤ x ∧ x ≤ 7) ∧ 0 ≤ y ∧ y ≤ 23) ∧ iI t 73 = 0 ∧ iI t 89 = 1 ∧ iI t 90 = iI s 90 ∧ 0 ≤ a ∧ a ≤ iI s 90) → (12 - a : Int).toNat < n → (∀ (t' : PS) (a' : Int), Bd t' → FmX [73, 77, 75, 78, 79, 80, 81] [161, 202, 203, 204, 205, 206, 207, 208, 209, 210, 211, 212, 213, 214, 215, 216, 217, 218, 219, 220, 221, 222, 223, 224, 225, 226, 227, 230] s t' → RLx t' → MDJ U t' → (EXl (pX s) (dT 0) [(q1, 12)] t' ∧ PXQ (ptL U (pcS (pfM s) x) 1 (y : Int).toNat) ((pX s).length + 0) (iI s 90) t' ∧ LDQ (ptL U (pcS (pfM s) x) 1 (y : Int).toNat) (uN U) z a') → ((zv = z ∧ rng z) ∧ (wv = w ∧ (w = 0 ∨ w = 1)) ∧ ((0 ≤ x ∧ x ≤ 7) ∧ 0 ≤ y ∧ y ≤ 23) ∧ iI t' 73 = 0 ∧ iI t' 89 = 1 ∧ iI t' 90 = iI s 90 ∧ a' = iI s 90) → WS k 238 [(0, .ref (A 179)), (6, .ref q1), (3, .int (Int32.ofInt zv)), (4, .int (Int32.ofInt wv)), (7, .int (Int32.ofInt a'))] [] (Wd A dT t') 1 12) → WS k 121 [(0, .ref (A 179)), (6, .ref q1), (3, .int (Int32.ofInt zv)), (4, .int (Int32.ofInt wv)), (7, .int (Int32.ofInt a))] [] (Wd A dT t) 1 12 := by
    intro q1 n
    induction n with
    | zero =>
      intro t zv wv a I F jjRLx jjMDJ hq hi hm kx
      exact absurd hm (Nat.not_lt_zero _)
    | succ n ih =>
      intro t zv wv a I F jjRLx jjMDJ hq hi hm kx
      have b3001 := bi_73 I
      have b3002 := bi_90 I
      have b3003 := bi_89 I
      refine z_load X (x := a) rfl (List.Mem.tail _ (List.Mem.tail _ (List.Mem.tail _ (List.Mem.tail _ (List.Mem.head _))))) (z_aload_n X (x := A 179) rfl (List.Mem.head _) (z_getI X 179 rfl (c518_ok rfl) rfl rfl ?_))
      have b3004 := bi_90 I
      refine z_icmp_ge X (t := 238) rfl rfl ⟨by first | exact oq_fa4e5087 hi.2.2.2.2.2.2.1 | omega, by first | exact oq_39d2cc6e hi.2.2.2.2.2.2.2 b2.2 | omega⟩ (rng_to _) (fun g3005 => ?_) (fun g3005 => ?_)
      ·
        refine WS_pq [0, 1, 2, 3, 4] (lv' := [(0, .ref (A 179)), (6, .ref q1), (3, .int (Int32.ofInt zv)), (4, .int (Int32.ofInt wv)), (7, .int (Int32.ofInt a))]) rfl ?_
        exact kx _ a I F jjRLx jjMDJ hq (by first | exact ⟨And.intro (hi.1.1) (And.intro (hi.1.2.1) (hi.1.2.2)), And.intro (hi.2.1.1) (hi.2.1.2), And.intro (And.intro (hi.2.2.1.1.1) (hi.2.2.1.1.2)) (And.intro (hi.2.2.1.2.1) (hi.2.2.1.2.2)), hi.2.2.2.1, hi.2.2.2.2.1, hi.2.2.2.2.2.1, oq_537ca82a hi.2.2.2.2.2.2.2 g3005 hi.2.2.2.2.2.1⟩ | omega)
      ·
        refine z_const X rfl (z_store X (lv' := [(8, .int (Int32.ofInt 0)), (0, .ref (A 179)), (6, .ref q1), (3, .int (Int32.ofInt zv)), (4, .int (Int32.ofInt wv)), (7, .int (Int32.ofInt a))]) rfl (by decide) (fun _ h => h) (z_const X rfl (z_store X (lv' := [(9, .int (Int32.ofInt 0)), (8, .int (Int32.ofInt 0)), (0, .ref (A 179)), (6, .ref q1), (3, .int (Int32.ofInt zv)), (4, .int (Int32.ofInt wv)), (7, .int (Int32.ofInt a))]) rfl (by decide) (fun _ h => h) (WS_pq [2, 3, 4, 5, 6, 1, 0] (lv' := [(0, .ref (A 179)), (6, .ref q1), (3, .int (Int32.ofInt zv)), (4, .int (Int32.ofInt wv)), (7, .int (Int32.ofInt a)), (8, .int (Int32.ofInt 0)), (9, .int (Int32.ofInt 0))]) rfl (L136 q1 ((12 - 0 : Int).toNat + 1) t zv wv a 0 0 I F jjRLx jjMDJ ⟨hq.1, hq.2.1, hq.2.2, rfl⟩ (by first | exact ⟨And.intro (hi.1.1) (And.intro (hi.1.2.1) (hi.1.2.2)), And.intro (hi.2.1.1) (hi.2.1.2), And.intro (And.intro (hi.2.2.1.1.1) (hi.2.2.1.1.2)) (And.intro (hi.2.2.1.2.1) (hi.2.2.1.2.2)), hi.2.2.2.1, hi.2.2.2.2.1, hi.2.2.2.2.2.1, And.intro (hi.2.2.2.2.2.2.1) (oq_9d1a6c71 g3005 hi.2.2.2.2.2.1), And.intro (by decide) (by decide), b2.1⟩ | omega) (Nat.lt_succ_self _) ?_)))))
        intro s3006 x3007 x3008 Is3006 Fs3006 JRLx_s3006 JMDJ_s3006 Qs3006 hs3006
        have b3009 := bi_73 Is3006
        have b3010 := bi_90 Is3006
        have b3011 := bi_89 Is3006
        have hA9 : x3007 = ahN (ptL U (pcS (pfM s) x) 1 (y : Int).toNat) (uN U) (a : Int).toNat := by have z := Qs3006.2.2.2; rw [show (x3008 : Int).toNat = uN U by first | (clear p3; omega) | omega] at z; exact z
        have v3 : xV ((pX s).length + 0) s3006 (a : Int).toNat = (ptL U (pcS (pfM s) x) 1 (y : Int).toNat) (a : Int).toNat := Qs3006.2.1 _ (by first | (clear p3; omega) | omega)
        refine z_aload X (x := q1) rfl (List.Mem.tail _ (List.Mem.head _)) (z_load X (x := a) rfl (List.Mem.tail _ (List.Mem.tail _ (List.Mem.tail _ (List.Mem.tail _ (List.Mem.head _))))) (z_xaldE X Qs3006.1 0 rfl rfl (by first | exact hs3006.2.2.2.2.2.2.1.1 | omega) (show a < 12 by first | exact oq_f36e82a8 hs3006.2.2.2.2.2.2.1.2 b2.2 | omega) (by decide) ?_))
        have b3012 : rng (xV ((pX s).length + 0) s3006 (a).toNat) := rng_to _
        refine z_if_eq X (t := 232) rfl rfl ⟨by first | exact b3012.1 | omega, by first | exact b3012.2 | omega⟩ (fun g3013 => ?_) (fun g3013 => ?_)
        ·
          refine z_inc X (x := a) (lv' := [(7, .int (Int32.ofInt (a + 1))), (0, .ref (A 179)), (6, .ref q1), (3, .int (Int32.ofInt zv)), (4, .int (Int32.ofInt wv)), (8, .int (Int32.ofInt x3007)), (9, .int (Int32.ofInt x3008))]) rfl (by decide) (List.Mem.tail _ (List.Mem.tail _ (List.Mem.tail _ (List.Mem.tail _ (List.Mem.head _))))) (fun _ h => h) (z_goto X (t := 121) rfl rfl (WS_pq [1, 2, 3, 4, 0] (lv' := [(0, .ref (A 179)), (6, .ref q1), (3, .int (Int32.ofInt zv)), (4, .int (Int32.ofInt wv)), (7, .int (Int32.ofInt (a + 1)))]) rfl ?_))
          exact ih _ zv wv (a + 1) Is3006 Fs3006 JRLx_s3006 JMDJ_s3006 ⟨Qs3006.1, Qs3006.2.1, ldq_up Qs3006.2.2.1 (by first | (clear p3; omega) | omega) (Or.inl (by rw [← v3]; omega))⟩ (by first | exact ⟨And.intro (hs3006.1.1) (And.intro (hs3006.1.2.1) (hs3006.1.2.2)), And.intro (hs3006.2.1.1) (hs3006.2.1.2), And.intro (And.intro (hs3006.2.2.1.1.1) (hs3006.2.2.1.1.2)) (And.intro (hs3006.2.2.1.2.1) (hs3006.2.2.1.2.2)), hs3006.2.2.2.1, hs3006.2.2.2.2.1, hs3006.2.2.2.2.2.1, oq_54f49eb5 hs3006.2.2.2.2.2.2.1.1, oq_afc84a8d hs3006.2.2.2.2.2.2.1.2⟩ | omega) (by first | exact qk_me hm (by decide) (oq_b575e8c1 hs3006.2.2.2.2.2.2.1.2 b2.2) | omega) kx
        ·
          refine z_load X (x := x3007) rfl (List.Mem.tail _ (List.Mem.tail _ (List.Mem.tail _ (List.Mem.tail _ (List.Mem.tail _ (List.Mem.head _)))))) (z_load_n X (x := zv) rfl (List.Mem.tail _ (List.Mem.tail _ (List.Mem.head _))) (z_icmp_ne X (t := 232) rfl rfl ⟨by first | exact oq_fa4e5087 hs3006.2.2.2.2.2.2.2.1.1 | omega, by first | exact oq_78843a64 hs3006.2.2.2.2.2.2.2.1.2 | omega⟩ ⟨by first | exact oq_6bc29d15 hs3006.1.1 hs3006.1.2.1 | omega, by first | exact oq_60a194f9 hs3006.1.1 hs3006.1.2.2 | omega⟩ (fun g3014 => ?_) (fun g3014 => ?_)))
          ·
            refine z_inc X (x := a) (lv' := [(7, .int (Int32.ofInt (a + 1))), (0, .ref (A 179)), (6, .ref q1), (3, .int (Int32.ofInt zv)), (4, .int (Int32.ofInt wv)), (8, .int (Int32.ofInt x3007)), (9, .int (Int32.ofInt x3008))]) rfl (by decide) (List.Mem.tail _ (List.Mem.tail _ (List.Mem.tail _ (List.Mem.tail _ (List.Mem.head _))))) (fun _ h => h) (z_goto X (t := 121) rfl rfl (WS_pq [1, 2, 3, 4, 0] (lv' := [(0, .ref (A 179)), (6, .ref q1), (3, .int (Int32.ofInt zv)), (4, .int (Int32.ofInt wv)), (7, .int (Int32.ofInt (a + 1)))]) rfl ?_))
            exact ih _ zv wv (a + 1) Is3006 Fs3006 JRLx_s3006 JMDJ_s3006 ⟨Qs3006.1, Qs3006.2.1, ldq_up Qs3006.2.2.1 (by first | (clear g3014 g3013 p3; omega) | (clear g3013 p3; omega) | omega) (Or.inr (by rw [← hA9]; omega))⟩ (by first | exact ⟨And.intro (hs3006.1.1) (And.intro (hs3006.1.2.1) (hs3006.1.2.2)), And.intro (hs3006.2.1.1) (hs3006.2.1.2), And.intro (And.intro (hs3006.2.2.1.1.1) (hs3006.2.2.1.1.2)) (And.intro (hs3006.2.2.1.2.1) (hs3006.2.2.1.2.2)), hs3006.2.2.2.1, hs3006.2.2.2.2.1, hs3006.2.2.2.2.2.1, oq_54f49eb5 hs3006.2.2.2.2.2.2.1.1, oq_afc84a8d hs3006.2.2.2.2.2.2.1.2⟩ | omega) (by first | exact qk_me hm (by decide) (oq_b575e8c1 hs3006.2.2.2.2.2.2.1.2 b2.2) | omega) kx
          ·
            refine z_load X (x := wv) rfl (List.Mem.tail _ (List.Mem.tail _ (List.Mem.tail _ (List.Mem.head _)))) (z_if_eq X (t := 229) rfl rfl ⟨by first | exact oq_ad8fc57c hs3006.2.1.2 hs3006.2.1.1 | omega, by first | exact oq_918d59e7 hs3006.2.1.2 hs3006.2.1.1 | omega⟩ (fun g3015 => ?_) (fun g3015 => ?_))
            ·
              refine z_load X (x := a) rfl (List.Mem.tail _ (List.Mem.tail _ (List.Mem.tail _ (List.Mem.tail _ (List.Mem.head _))))) (ws_forget Qs3006.1 ?_)
              exact w_iret X.1 q hRt rfl (ax_d X (show cdA 290 231 = some (.ireturn, 1, 0, 0, 0) from rfl)) (by decide) (by decide) ⟨_, rfl, Is3006, fx_end Fs3006, JRLx_s3006, a, rfl, ⟨by first | exact oq_fa4e5087 hs3006.2.2.2.2.2.2.1.1 | omega, by first | exact oq_8be37138 hs3006.2.2.2.2.2.2.1.2 b2.2 | omega⟩, Or.inl ⟨by first | (clear g3013 p3; omega) | (clear p3; omega) | omega, by first | (clear g3013 p3; omega) | (clear p3; omega) | omega, (show iI s3006 73 = 0 by first | (clear g3013 p3; omega) | (clear p3; omega) | omega), Or.inl ⟨(a : Int).toNat, by first | (clear g3013 p3; omega) | (clear p3; omega) | omega, by rw [← v3]; omega, by rw [← hA9]; omega, by rw [show (((a : Int).toNat : Nat) : Int) = a by first | (clear g3013 p3; omega) | (clear p3; omega) | omega]; exact Qs3006.2.2.1, Or.inr ⟨by first | (clear g3013 p3; omega) | (clear p3; omega) | omega, by first | (clear g3013 p3; omega) | (clear p3; omega) | omega⟩⟩⟩⟩
            ·
              refine z_aload X (x := q1) rfl (List.Mem.tail _ (List.Mem.head _)) (z_load X (x := a) rfl (List.Mem.tail _ (List.Mem.tail _ (List.Mem.tail _ (List.Mem.tail _ (List.Mem.head _))))) (z_xaldE X Qs3006.1 0 rfl rfl (by first | exact hs3006.2.2.2.2.2.2.1.1 | omega) (show a < 12 by first | exact oq_f36e82a8 hs3006.2.2.2.2.2.2.1.2 b2.2 | omega) (by decide) ?_))
              have b3016 : rng (xV ((pX s).length + 0) s3006 (a).toNat) := rng_to _
              refine z_goto X (t := 231) rfl rfl (ws_forget Qs3006.1 ?_)
              exact w_iret X.1 q hRt rfl (ax_d X (show cdA 290 231 = some (.ireturn, 1, 0, 0, 0) from rfl)) (by decide) (by decide) ⟨_, rfl, Is3006, fx_end Fs3006, JRLx_s3006, (xV ((pX s).length + 0) s3006 (a).toNat), rfl, ⟨by first | exact b3016.1 | omega, by first | exact b3016.2 | omega⟩, Or.inl ⟨by first | (clear g3015 g3013 p3; omega) | (clear g3013 p3; omega) | omega, by first | (clear g3015 g3013 p3; omega) | (clear g3013 p3; omega) | omega, (show iI s3006 73 = 0 by first | (clear g3015 g3013 p3; omega) | (clear g3013 p3; omega) | omega), Or.inl ⟨(a : Int).toNat, by first | (clear g3015 g3013 p3; omega) | (clear g3013 p3; omega) | omega, by rw [← v3]; omega, by rw [← hA9]; omega, by rw [show (((a : Int).toNat : Nat) : Int) = a by first | (clear g3015 g3013 p3; omega) | (clear g3013 p3; omega) | omega]; exact Qs3006.2.2.1, Or.inl ⟨by first | (clear g3015 g3013 p3; omega) | (clear g3013 p3; omega) | omega, v3⟩⟩⟩⟩
  refine z_aload_n X (x := A 179) rfl (List.Mem.head _) (z_const X rfl (s_putI X 179 rfl (c518_ok rfl) rfl rfl (by decide) rfl rfl rfl (wd_gen (fun s4 hs4 => ?_))))
  have Is4 : Bd s4 := eqB hs4 (bd_I I (show (0 : Int) ≤ 0 ∧ 0 ≤ 3 by first | exact ⟨by decide, by decide⟩ | omega) (by decide))
  have Fs4 := eqF hs4 (fm_I F (inl_ok (a := 73) rfl))
  have vs4 : iI s4 73 = 0 := eqI hs4 (iI_u (by decide))
  have ws4_90 : iI s4 90 = iI s 90 := eqI hs4 rfl
  have ws4_89 : iI s4 89 = iI s 89 := eqI hs4 rfl
  have fs4 : Fm [73] [] s s4 := by rw [hs4]; exact fm_I (fm_rf _ _ _) (show 73 ∈ _ by decide)
  have JRLx_s4 : RLx s4 := RLx_fm fs4 (by decide) jRLx
  have JMDJ_s4 : MDJ U s4 := MDJ_fm fs4 (by decide) jMDJ
  refine z_aload_n X (x := A 179) rfl (List.Mem.head _) (z_load_n X (x := x) rfl (List.Mem.tail _ (List.Mem.head _)) (z_const X rfl (z_bipush X rfl (z_callS X (rm := rmN 188) (As := [.int (Int32.ofInt x), .int (Int32.ofInt 0), .int (Int32.ofInt 7)]) (st := [.ref (A 179)]) rfl rfl (by rw [E.1, E.2.1, E.2.2.1]; exact k_in2 G Is4 (by first | exact ⟨p0.1, p0.2⟩ | omega) (by first | exact ⟨by decide, by decide⟩ | omega) (by first | exact ⟨by decide, by decide⟩ | omega)) ⟨by rw [E.2.2.2]; exact (show (rmN 188).frames + 1 ≤ (rmN 290).frames by decide), by rw [E.2.2.2]; exact (show 8 + (mNL (miB 188) + 11) + (rmN 188).locals ≤ (rmN 290).locals by decide), by rw [E.2.2.2]; exact (show 0 + (rmN 188).cells ≤ (rmN 290).cells by decide), by rw [E.2.2.2]; exact (show 0 + (rmN 188).slots ≤ (rmN 290).slots by decide)⟩ (Nat.le_of_ble_eq_true rfl) (fun vv s5 hq => ?_) (fun ee s5 hq => ?_)))))
  rotate_left
  · obtain ⟨rfl, e6, hv, hrs5, hps5⟩ := hq; cases hv
  obtain ⟨rfl, e6, hv, hrs5, hps5⟩ := hq
  cases hv
  show WS k 13 [(0, .ref (A 179)), (1, .int (Int32.ofInt x)), (2, .int (Int32.ofInt y)), (3, .int (Int32.ofInt z)), (4, .int (Int32.ofInt w))] [.int (Int32.ofInt e6), .ref (A 179)] (Wd A dT s4) 0 0
  refine z_if_eq X (t := 26) rfl rfl hrs5 (fun g7 => ?_) (fun g7 => ?_)
  ·
    refine z_const X rfl (z_goto X (t := 31) rfl rfl (z_const X rfl (zcV_i0 X E 179 (As := [.int (Int32.ofInt 1), .int (Int32.ofInt 1)]) (st := []) rfl rfl rfl rfl (k_bad2 G Is4 (by first | exact Or.inr (by decide) | omega) (by first | exact ⟨by decide, by decide⟩ | omega)) rfl (Nat.le_of_ble_eq_true rfl) (fun s8 e9 Is8 Fs8 hrs8 hps8 => ?_))))
    have Gs8 := fm_tq Fs4 Fs8 rfl rfl
    have JRLx_s8 : RLx s8 := RLx_fm Fs8 (by decide) JRLx_s4
    have JMDJ_s8 : MDJ U s8 := MDJ_fm Fs8 (by decide) JMDJ_s4
    have b10 := bi_73 Is8
    have ws8_90 : iI s8 90 = iI s4 90 := fm_iq Fs8 rfl
    have ws8_89 : iI s8 89 = iI s4 89 := fm_iq Fs8 rfl
    refine z_if_eq X (t := 40) rfl rfl hrs8 (fun g11 => ?_) (fun g11 => ?_)
    ·
      refine z_aload_n X (x := A 179) rfl (List.Mem.head _) (z_load_n X (x := x) rfl (List.Mem.tail _ (List.Mem.head _)) (zcV_v0 X E 179 (As := [.int (Int32.ofInt x)]) (st := []) rfl rfl rfl rfl (k_setOf3 G Is8 (by first | exact ⟨p0.1, p0.2⟩ | omega)) rfl (Nat.le_of_ble_eq_true rfl) (fun s12 Is12 Fs12 hps12 => ?_)))
      have Gs12 := fm_tq Gs8 Fs12 rfl rfl
      have JRLx_s12 : RLx s12 := RLx_fm Fs12 (by decide) JRLx_s8
      have JMDJ_s12 : MDJ U s12 := MDJ_fm Fs12 (by decide) JMDJ_s8
      have ws12_73 : iI s12 73 = iI s8 73 := fm_iq Fs12 rfl
      have ws12_90 : iI s12 90 = iI s8 90 := fm_iq Fs12 rfl
      have ws12_89 : iI s12 89 = iI s8 89 := fm_iq Fs12 rfl
      have hIn : inS s12 = (pcS (pfM s) x) := by rw [soq_in hps12, show pfM s8 = pfM s from funext (fun j => fm_c Gs8 (by decide))]
      refine z_aload_n X (x := A 179) rfl (List.Mem.head _) (z_load_n X (x := y) rfl (List.Mem.tail _ (List.Mem.tail _ (List.Mem.head _))) (zcV_v2 X E 179 (As := [.int (Int32.ofInt y)]) (st := []) rfl rfl rfl rfl (k_asTold6 G Is12 JRLx_s12 JMDJ_s12 (by first | exact ⟨oq_674898f9 g11 hps8 vs4, oq_48516caf g11 hps8 vs4⟩ | omega)) rfl (Nat.le_of_ble_eq_true rfl) (fun s14 Is14 Fs14 JRLx_s14 JNQ_s14 hps14 => ?_)))
      have Gs14 := fm_tq Gs12 Fs14 rfl rfl
      have JRLx_s14 : RLx s14 := RLx_fm Fs14 (by decide) JRLx_s12
      have JMDJ_s14 : MDJ U s14 := MDJ_fm Fs14 (by decide) JMDJ_s12
      have ws14_73 : iI s14 73 = iI s12 73 := fm_iq Fs14 rfl
      have ws14_90 : iI s14 90 = iI s12 90 := fm_iq Fs14 rfl
      have ws14_89 : iI s14 89 = iI s12 89 := fm_iq Fs14 rfl
      have JNW_s14 : NW s14 := NW_of JNQ_s14 JRLx_s14
      have hNW9 := nq_w JMDJ_s14 JNQ_s14
      have hNE9 : NWE U s14 := ⟨JMDJ_s14.1.2, hNW9.1⟩
      have hIn2 : inS s14 = (pcS (pfM s) x) := by rw [ins_fm Fs14 (by decide)]; exact hIn
      refine z_aload_n X (x := A 179) rfl (List.Mem.head _) (zcV_i0 X E 179 (As := []) (st := []) rfl rfl rfl rfl (k_load6 G Is14 JNW_s14 hNW9.2 JMDJ_s14 hNE9 hps14 ) rfl (Nat.le_of_ble_eq_true rfl) (fun s16 e17 Is16 Fs16 hrs16 hps16 => ?_))
      have Gs16 := fm_tq Gs14 Fs16 rfl rfl
      have JRLx_s16 : RLx s16 := RLx_fm Fs16 (by decide) JRLx_s14
      have JMDJ_s16 : MDJ U s16 := MDJ_fm Fs16 (by decide) JMDJ_s14
      have JNW_s16 : NW s16 := NW_fm Fs16 (by decide) JNW_s14
      have JNWL_s16 : NWL s16 := NWL_fm Fs16 (by decide) hNW9.2
      have JNWE_s16 : NWE U s16 := NWE_fm Fs16 (by decide) hNE9
      have JNMQ_s16 : NMQ (uM U (y : Int).toNat) (uN U : Int) s16 := NMQ_fm Fs16 (by decide) hps14
      have ws16_73 : iI s16 73 = iI s14 73 := fm_iq Fs16 rfl
      have ws16_90 : iI s16 90 = iI s14 90 := fm_iq Fs16 rfl
      have ws16_89 : iI s16 89 = iI s14 89 := fm_iq Fs16 rfl
      have hM1 : iI s14 89 = 1 := by first | (clear hps16 hps8 hps5 p3; omega) | (clear hps8 hps5 p3; omega) | omega
      have hl : Int32.ofInt e17 = ldH U (pcS (pfM s) x) 1 (y : Int).toNat (-1) := by unfold ldH; rw [mow_n, ← hIn2, ← hM1]; exact hps16.1
      have hIn3 : inS s16 = (pcS (pfM s) x) := by rw [ins_fm Fs16 (by decide)]; exact hIn2
      refine z_store X (lv' := [(5, .int (Int32.ofInt e17)), (0, .ref (A 179)), (1, .int (Int32.ofInt x)), (2, .int (Int32.ofInt y)), (3, .int (Int32.ofInt z)), (4, .int (Int32.ofInt w))]) rfl (by decide) (fun _ h => h) (z_bipush X rfl (z_newX X (n := 12) (by decide) rfl (by rw [E.2.2.2]; decide) (by rw [E.2.2.2]; decide) (fun q1 => ?_)))
      have eXs18 : EXl (pX s) (dT 0) [(q1, 12)] (sx s16 (pX s16 ++ [(q1, .inl (dT 0, 12, .inl (fun _ => 0)))])) := ⟨fun _ _ => 0, by show pX s16 ++ [_] = _; rw [Gs16.2.2.1]; rfl⟩
      have Is18 : Bd (sx s16 (pX s16 ++ [(q1, .inl (dT 0, 12, .inl (fun _ => 0)))])) := Is16
      have Fs18 : FmX [73, 77, 75, 78, 79, 80, 81] [161, 202, 203, 204, 205, 206, 207, 208, 209, 210, 211, 212, 213, 214, 215, 216, 217, 218, 219, 220, 221, 222, 223, 224, 225, 226, 227, 230] s (sx s16 (pX s16 ++ [(q1, .inl (dT 0, 12, .inl (fun _ => 0)))])) := ⟨Gs16.1, Gs16.2.1, Gs16.2.2.2⟩
      have JRLx_s18 : RLx (sx s16 (pX s16 ++ [(q1, .inl (dT 0, 12, .inl (fun _ => 0)))])) := JRLx_s16
      have JMDJ_s18 : MDJ U (sx s16 (pX s16 ++ [(q1, .inl (dT 0, 12, .inl (fun _ => 0)))])) := JMDJ_s16
      have JNW_s18 : NW (sx s16 (pX s16 ++ [(q1, .inl (dT 0, 12, .inl (fun _ => 0)))])) := JNW_s16
      have JNWL_s18 : NWL (sx s16 (pX s16 ++ [(q1, .inl (dT 0, 12, .inl (fun _ => 0)))])) := JNWL_s16
      have JNWE_s18 : NWE U (sx s16 (pX s16 ++ [(q1, .inl (dT 0, 12, .inl (fun _ => 0)))])) := JNWE_s16
      have JNMQ_s18 : NMQ (uM U (y : Int).toNat) (uN U : Int) (sx s16 (pX s16 ++ [(q1, .inl (dT 0, 12, .inl (fun _ => 0)))])) := JNMQ_s16
      have aws18_230 : SAM 230 s16 (sx s16 (pX s16 ++ [(q1, .inl (dT 0, 12, .inl (fun _ => 0)))])) := (sam_rf (a := 230) (s := s16))
      have ws18_73 : iI (sx s16 (pX s16 ++ [(q1, .inl (dT 0, 12, .inl (fun _ => 0)))])) 73 = iI s16 73 := rfl
      have ws18_90 : iI (sx s16 (pX s16 ++ [(q1, .inl (dT 0, 12, .inl (fun _ => 0)))])) 90 = iI s16 90 := rfl
      have ws18_89 : iI (sx s16 (pX s16 ++ [(q1, .inl (dT 0, 12, .inl (fun _ => 0)))])) 89 = iI s16 89 := rfl
      generalize (sx s16 (pX s16 ++ [(q1, .inl (dT 0, 12, .inl (fun _ => 0)))])) = s18 at *
      show WS k 60 [(5, .int (Int32.ofInt e17)), (0, .ref (A 179)), (1, .int (Int32.ofInt x)), (2, .int (Int32.ofInt y)), (3, .int (Int32.ofInt z)), (4, .int (Int32.ofInt w))] [.ref q1] (Wd A dT s18) 1 12
      refine z_astore X (lv' := [(6, .ref q1), (5, .int (Int32.ofInt e17)), (0, .ref (A 179)), (1, .int (Int32.ofInt x)), (2, .int (Int32.ofInt y)), (3, .int (Int32.ofInt z)), (4, .int (Int32.ofInt w))]) rfl (by decide) (fun _ h => h) (z_const X rfl (z_store X (lv' := [(7, .int (Int32.ofInt 0)), (6, .ref q1), (5, .int (Int32.ofInt e17)), (0, .ref (A 179)), (1, .int (Int32.ofInt x)), (2, .int (Int32.ofInt y)), (3, .int (Int32.ofInt z)), (4, .int (Int32.ofInt w))]) rfl (by decide) (fun _ h => h) (WS_pq [3, 1, 6, 7, 2, 0] (lv' := [(0, .ref (A 179)), (6, .ref q1), (3, .int (Int32.ofInt z)), (4, .int (Int32.ofInt w)), (5, .int (Int32.ofInt e17)), (7, .int (Int32.ofInt 0))]) rfl (L65 q1 ((12 - 0 : Int).toNat + 1) s18 z w e17 0 Is18 Fs18 JRLx_s18 JMDJ_s18 JNW_s18 JNWL_s18 JNWE_s18 ⟨eXs18, JNMQ_s18, (ins_s aws18_230).trans hIn3, hl, pxq_0⟩ (by first | exact ⟨And.intro (by decide) (And.intro (p2.1) (p2.2)), And.intro (by decide) (p3), oq_787d67b8 g11 hps8 vs4, oq_e19d9c5d g11 hps8 vs4, oq_f2ff104a g11 hps8 vs4, oq_bbd5784d g11 hps8 vs4, oq_196d10b5 g11 hps8 vs4, by decide, b2.1⟩ | omega) (Nat.lt_succ_self _) ?_))))
      intro s19 x20 Is19 Fs19 JRLx_s19 JMDJ_s19 JNW_s19 JNWL_s19 JNWE_s19 Qs19 hs19
      have b21 := bi_73 Is19
      have b22 := bi_90 Is19
      have b23 := bi_89 Is19
      refine z_const X rfl (z_store X (lv' := [(7, .int (Int32.ofInt 0)), (0, .ref (A 179)), (6, .ref q1), (3, .int (Int32.ofInt z)), (4, .int (Int32.ofInt w)), (5, .int (Int32.ofInt e17))]) rfl (by decide) (fun _ h => h) (WS_pq [1, 2, 3, 4, 0] (lv' := [(0, .ref (A 179)), (6, .ref q1), (3, .int (Int32.ofInt z)), (4, .int (Int32.ofInt w)), (7, .int (Int32.ofInt 0))]) rfl (L121 q1 ((12 - 0 : Int).toNat + 1) s19 z w 0 Is19 Fs19 JRLx_s19 JMDJ_s19 ⟨Qs19.1, by have z := Qs19.2.2.2.2; rw [show x20 = iI s 90 by first | (clear hps16 hps8 hps5 p3; omega) | (clear hps8 hps5 p3; omega) | omega] at z; exact z, ldq_0⟩ (by first | exact ⟨And.intro (by decide) (And.intro (hs19.1.2.1) (hs19.1.2.2)), And.intro (by decide) (hs19.2.1.2), And.intro (And.intro (hs19.2.2.1.1.1) (hs19.2.2.1.1.2)) (And.intro (hs19.2.2.1.2.1) (hs19.2.2.1.2.2)), hs19.2.2.2.1, hs19.2.2.2.2.1, hs19.2.2.2.2.2.1, by decide, b2.1⟩ | omega) (Nat.lt_succ_self _) ?_)))
      intro s24 x25 Is24 Fs24 JRLx_s24 JMDJ_s24 Qs24 hs24
      have b26 := bi_73 Is24
      have b27 := bi_90 Is24
      have b28 := bi_89 Is24
      refine z_const X rfl (ws_forget Qs24.1 ?_)
      exact w_iret X.1 q hRt rfl (ax_d X (show cdA 290 239 = some (.ireturn, 1, 0, 0, 0) from rfl)) (by decide) (by decide) ⟨_, rfl, Is24, fx_end Fs24, JRLx_s24, (-1), rfl, (by decide), Or.inl ⟨by first | (clear hps16 hps8 hps5 p3; omega) | (clear hps8 hps5 p3; omega) | omega, by first | (clear hps16 hps8 hps5 p3; omega) | (clear hps8 hps5 p3; omega) | omega, (show iI s24 73 = 0 by first | (clear hps16 hps8 hps5 p3; omega) | (clear hps8 hps5 p3; omega) | omega), Or.inr ⟨by have z := Qs24.2.2; rw [show x25 = (uN U : Int) by first | (clear hps16 hps8 hps5 p3; omega) | (clear hps8 hps5 p3; omega) | omega] at z; exact z, by first | (clear hps16 hps8 hps5 p3; omega) | (clear hps8 hps5 p3; omega) | omega⟩⟩⟩
    ·
      refine z_const X rfl ?_
      exact w_iret X.1 q hRt rfl (ax_d X (show cdA 290 39 = some (.ireturn, 1, 0, 0, 0) from rfl)) (Nat.zero_le _) (Nat.zero_le _) ⟨_, rfl, Is8, Gs8, JRLx_s8, 0, rfl, (by decide), Or.inr ⟨by first | (clear g11 hps8 hps5 p3; omega) | (clear hps8 hps5 p3; omega) | omega, by first | (clear g11 hps8 hps5 p3; omega) | (clear hps8 hps5 p3; omega) | omega⟩⟩
  ·
    refine z_load_n X (x := y) rfl (List.Mem.tail _ (List.Mem.tail _ (List.Mem.head _))) (z_const X rfl (z_bipush X rfl (z_callS X (rm := rmN 188) (As := [.int (Int32.ofInt y), .int (Int32.ofInt 0), .int (Int32.ofInt 23)]) (st := [.ref (A 179)]) rfl rfl (by rw [E.1, E.2.1, E.2.2.1]; exact k_in2 G Is4 (by first | exact ⟨p1.1, p1.2⟩ | omega) (by first | exact ⟨by decide, by decide⟩ | omega) (by first | exact ⟨by decide, by decide⟩ | omega)) ⟨by rw [E.2.2.2]; exact (show (rmN 188).frames + 1 ≤ (rmN 290).frames by decide), by rw [E.2.2.2]; exact (show 8 + (mNL (miB 188) + 11) + (rmN 188).locals ≤ (rmN 290).locals by decide), by rw [E.2.2.2]; exact (show 0 + (rmN 188).cells ≤ (rmN 290).cells by decide), by rw [E.2.2.2]; exact (show 0 + (rmN 188).slots ≤ (rmN 290).slots by decide)⟩ (Nat.le_of_ble_eq_true rfl) (fun vv s29 hq => ?_) (fun ee s29 hq => ?_))))
    rotate_left
    · obtain ⟨rfl, e30, hv, hrs29, hps29⟩ := hq; cases hv
    obtain ⟨rfl, e30, hv, hrs29, hps29⟩ := hq
    cases hv
    show WS k 23 [(0, .ref (A 179)), (1, .int (Int32.ofInt x)), (2, .int (Int32.ofInt y)), (3, .int (Int32.ofInt z)), (4, .int (Int32.ofInt w))] [.int (Int32.ofInt e30), .ref (A 179)] (Wd A dT s4) 0 0
    refine z_if_ne X (t := 30) rfl rfl hrs29 (fun g31 => ?_) (fun g31 => ?_)
    ·
      refine z_const X rfl (z_const X rfl (zcV_i0 X E 179 (As := [.int (Int32.ofInt 0), .int (Int32.ofInt 1)]) (st := []) rfl rfl rfl rfl (k_bad2 G Is4 (by first | exact Or.inl (by decide) | omega) (by first | exact ⟨by decide, by decide⟩ | omega)) rfl (Nat.le_of_ble_eq_true rfl) (fun s32 e33 Is32 Fs32 hrs32 hps32 => ?_)))
      have Gs32 := fm_tq Fs4 Fs32 rfl rfl
      have JRLx_s32 : RLx s32 := RLx_fm Fs32 (by decide) JRLx_s4
      have JMDJ_s32 : MDJ U s32 := MDJ_fm Fs32 (by decide) JMDJ_s4
      have b34 := bi_73 Is32
      have ws32_90 : iI s32 90 = iI s4 90 := fm_iq Fs32 rfl
      have ws32_89 : iI s32 89 = iI s4 89 := fm_iq Fs32 rfl
      refine z_if_eq X (t := 40) rfl rfl hrs32 (fun g35 => ?_) (fun g35 => ?_)
      ·
        refine z_aload_n X (x := A 179) rfl (List.Mem.head _) (z_load_n X (x := x) rfl (List.Mem.tail _ (List.Mem.head _)) (zcV_v0 X E 179 (As := [.int (Int32.ofInt x)]) (st := []) rfl rfl rfl rfl (k_setOf3 G Is32 (by first | exact ⟨p0.1, p0.2⟩ | omega)) rfl (Nat.le_of_ble_eq_true rfl) (fun s36 Is36 Fs36 hps36 => ?_)))
        have Gs36 := fm_tq Gs32 Fs36 rfl rfl
        have JRLx_s36 : RLx s36 := RLx_fm Fs36 (by decide) JRLx_s32
        have JMDJ_s36 : MDJ U s36 := MDJ_fm Fs36 (by decide) JMDJ_s32
        have ws36_73 : iI s36 73 = iI s32 73 := fm_iq Fs36 rfl
        have ws36_90 : iI s36 90 = iI s32 90 := fm_iq Fs36 rfl
        have ws36_89 : iI s36 89 = iI s32 89 := fm_iq Fs36 rfl
        have hIn : inS s36 = (pcS (pfM s) x) := by rw [soq_in hps36, show pfM s32 = pfM s from funext (fun j => fm_c Gs32 (by decide))]
        refine z_aload_n X (x := A 179) rfl (List.Mem.head _) (z_load_n X (x := y) rfl (List.Mem.tail _ (List.Mem.tail _ (List.Mem.head _))) (zcV_v2 X E 179 (As := [.int (Int32.ofInt y)]) (st := []) rfl rfl rfl rfl (k_asTold6 G Is36 JRLx_s36 JMDJ_s36 (by first | exact ⟨oq_0159bb48 g31 hps29, oq_8b498cf6 g31 hps29⟩ | omega)) rfl (Nat.le_of_ble_eq_true rfl) (fun s38 Is38 Fs38 JRLx_s38 JNQ_s38 hps38 => ?_)))
        have Gs38 := fm_tq Gs36 Fs38 rfl rfl
        have JRLx_s38 : RLx s38 := RLx_fm Fs38 (by decide) JRLx_s36
        have JMDJ_s38 : MDJ U s38 := MDJ_fm Fs38 (by decide) JMDJ_s36
        have ws38_73 : iI s38 73 = iI s36 73 := fm_iq Fs38 rfl
        have ws38_90 : iI s38 90 = iI s36 90 := fm_iq Fs38 rfl
        have ws38_89 : iI s38 89 = iI s36 89 := fm_iq Fs38 rfl
        have JNW_s38 : NW s38 := NW_of JNQ_s38 JRLx_s38
        have hNW9 := nq_w JMDJ_s38 JNQ_s38
        have hNE9 : NWE U s38 := ⟨JMDJ_s38.1.2, hNW9.1⟩
        have hIn2 : inS s38 = (pcS (pfM s) x) := by rw [ins_fm Fs38 (by decide)]; exact hIn
        refine z_aload_n X (x := A 179) rfl (List.Mem.head _) (zcV_i0 X E 179 (As := []) (st := []) rfl rfl rfl rfl (k_load6 G Is38 JNW_s38 hNW9.2 JMDJ_s38 hNE9 hps38 ) rfl (Nat.le_of_ble_eq_true rfl) (fun s40 e41 Is40 Fs40 hrs40 hps40 => ?_))
        have Gs40 := fm_tq Gs38 Fs40 rfl rfl
        have JRLx_s40 : RLx s40 := RLx_fm Fs40 (by decide) JRLx_s38
        have JMDJ_s40 : MDJ U s40 := MDJ_fm Fs40 (by decide) JMDJ_s38
        have JNW_s40 : NW s40 := NW_fm Fs40 (by decide) JNW_s38
        have JNWL_s40 : NWL s40 := NWL_fm Fs40 (by decide) hNW9.2
        have JNWE_s40 : NWE U s40 := NWE_fm Fs40 (by decide) hNE9
        have JNMQ_s40 : NMQ (uM U (y : Int).toNat) (uN U : Int) s40 := NMQ_fm Fs40 (by decide) hps38
        have ws40_73 : iI s40 73 = iI s38 73 := fm_iq Fs40 rfl
        have ws40_90 : iI s40 90 = iI s38 90 := fm_iq Fs40 rfl
        have ws40_89 : iI s40 89 = iI s38 89 := fm_iq Fs40 rfl
        have hM1 : iI s38 89 = 1 := by first | (clear hps40 hps32 g31 hps29 g7 hps5 p3; omega) | (clear hps32 g31 hps29 g7 hps5 p3; omega) | omega
        have hl : Int32.ofInt e41 = ldH U (pcS (pfM s) x) 1 (y : Int).toNat (-1) := by unfold ldH; rw [mow_n, ← hIn2, ← hM1]; exact hps40.1
        have hIn3 : inS s40 = (pcS (pfM s) x) := by rw [ins_fm Fs40 (by decide)]; exact hIn2
        refine z_store X (lv' := [(5, .int (Int32.ofInt e41)), (0, .ref (A 179)), (1, .int (Int32.ofInt x)), (2, .int (Int32.ofInt y)), (3, .int (Int32.ofInt z)), (4, .int (Int32.ofInt w))]) rfl (by decide) (fun _ h => h) (z_bipush X rfl (z_newX X (n := 12) (by decide) rfl (by rw [E.2.2.2]; decide) (by rw [E.2.2.2]; decide) (fun q1 => ?_)))
        have eXs42 : EXl (pX s) (dT 0) [(q1, 12)] (sx s40 (pX s40 ++ [(q1, .inl (dT 0, 12, .inl (fun _ => 0)))])) := ⟨fun _ _ => 0, by show pX s40 ++ [_] = _; rw [Gs40.2.2.1]; rfl⟩
        have Is42 : Bd (sx s40 (pX s40 ++ [(q1, .inl (dT 0, 12, .inl (fun _ => 0)))])) := Is40
        have Fs42 : FmX [73, 77, 75, 78, 79, 80, 81] [161, 202, 203, 204, 205, 206, 207, 208, 209, 210, 211, 212, 213, 214, 215, 216, 217, 218, 219, 220, 221, 222, 223, 224, 225, 226, 227, 230] s (sx s40 (pX s40 ++ [(q1, .inl (dT 0, 12, .inl (fun _ => 0)))])) := ⟨Gs40.1, Gs40.2.1, Gs40.2.2.2⟩
        have JRLx_s42 : RLx (sx s40 (pX s40 ++ [(q1, .inl (dT 0, 12, .inl (fun _ => 0)))])) := JRLx_s40
        have JMDJ_s42 : MDJ U (sx s40 (pX s40 ++ [(q1, .inl (dT 0, 12, .inl (fun _ => 0)))])) := JMDJ_s40
        have JNW_s42 : NW (sx s40 (pX s40 ++ [(q1, .inl (dT 0, 12, .inl (fun _ => 0)))])) := JNW_s40
        have JNWL_s42 : NWL (sx s40 (pX s40 ++ [(q1, .inl (dT 0, 12, .inl (fun _ => 0)))])) := JNWL_s40
        have JNWE_s42 : NWE U (sx s40 (pX s40 ++ [(q1, .inl (dT 0, 12, .inl (fun _ => 0)))])) := JNWE_s40
        have JNMQ_s42 : NMQ (uM U (y : Int).toNat) (uN U : Int) (sx s40 (pX s40 ++ [(q1, .inl (dT 0, 12, .inl (fun _ => 0)))])) := JNMQ_s40
        have aws42_230 : SAM 230 s40 (sx s40 (pX s40 ++ [(q1, .inl (dT 0, 12, .inl (fun _ => 0)))])) := (sam_rf (a := 230) (s := s40))
        have ws42_73 : iI (sx s40 (pX s40 ++ [(q1, .inl (dT 0, 12, .inl (fun _ => 0)))])) 73 = iI s40 73 := rfl
        have ws42_90 : iI (sx s40 (pX s40 ++ [(q1, .inl (dT 0, 12, .inl (fun _ => 0)))])) 90 = iI s40 90 := rfl
        have ws42_89 : iI (sx s40 (pX s40 ++ [(q1, .inl (dT 0, 12, .inl (fun _ => 0)))])) 89 = iI s40 89 := rfl
        generalize (sx s40 (pX s40 ++ [(q1, .inl (dT 0, 12, .inl (fun _ => 0)))])) = s42 at *
        show WS k 60 [(5, .int (Int32.ofInt e41)), (0, .ref (A 179)), (1, .int (Int32.ofInt x)), (2, .int (Int32.ofInt y)), (3, .int (Int32.ofInt z)), (4, .int (Int32.ofInt w))] [.ref q1] (Wd A dT s42) 1 12
        refine z_astore X (lv' := [(6, .ref q1), (5, .int (Int32.ofInt e41)), (0, .ref (A 179)), (1, .int (Int32.ofInt x)), (2, .int (Int32.ofInt y)), (3, .int (Int32.ofInt z)), (4, .int (Int32.ofInt w))]) rfl (by decide) (fun _ h => h) (z_const X rfl (z_store X (lv' := [(7, .int (Int32.ofInt 0)), (6, .ref q1), (5, .int (Int32.ofInt e41)), (0, .ref (A 179)), (1, .int (Int32.ofInt x)), (2, .int (Int32.ofInt y)), (3, .int (Int32.ofInt z)), (4, .int (Int32.ofInt w))]) rfl (by decide) (fun _ h => h) (WS_pq [3, 1, 6, 7, 2, 0] (lv' := [(0, .ref (A 179)), (6, .ref q1), (3, .int (Int32.ofInt z)), (4, .int (Int32.ofInt w)), (5, .int (Int32.ofInt e41)), (7, .int (Int32.ofInt 0))]) rfl (L65 q1 ((12 - 0 : Int).toNat + 1) s42 z w e41 0 Is42 Fs42 JRLx_s42 JMDJ_s42 JNW_s42 JNWL_s42 JNWE_s42 ⟨eXs42, JNMQ_s42, (ins_s aws42_230).trans hIn3, hl, pxq_0⟩ (by first | (clear hps40 hps32 g31 hps29 g7 hps5 p3; omega) | (clear hps32 g31 hps29 g7 hps5 p3; omega) | omega) (Nat.lt_succ_self _) ?_))))
        intro s43 x44 Is43 Fs43 JRLx_s43 JMDJ_s43 JNW_s43 JNWL_s43 JNWE_s43 Qs43 hs43
        have b45 := bi_73 Is43
        have b46 := bi_90 Is43
        have b47 := bi_89 Is43
        refine z_const X rfl (z_store X (lv' := [(7, .int (Int32.ofInt 0)), (0, .ref (A 179)), (6, .ref q1), (3, .int (Int32.ofInt z)), (4, .int (Int32.ofInt w)), (5, .int (Int32.ofInt e41))]) rfl (by decide) (fun _ h => h) (WS_pq [1, 2, 3, 4, 0] (lv' := [(0, .ref (A 179)), (6, .ref q1), (3, .int (Int32.ofInt z)), (4, .int (Int32.ofInt w)), (7, .int (Int32.ofInt 0))]) rfl (L121 q1 ((12 - 0 : Int).toNat + 1) s43 z w 0 Is43 Fs43 JRLx_s43 JMDJ_s43 ⟨Qs43.1, by have z := Qs43.2.2.2.2; rw [show x44 = iI s 90 by first | (clear hps40 hps32 g31 hps29 g7 hps5 p3; omega) | (clear hps32 g31 hps29 g7 hps5 p3; omega) | omega] at z; exact z, ldq_0⟩ (by first | exact ⟨And.intro (by decide) (And.intro (hs43.1.2.1) (hs43.1.2.2)), And.intro (by decide) (hs43.2.1.2), And.intro (And.intro (hs43.2.2.1.1.1) (hs43.2.2.1.1.2)) (And.intro (hs43.2.2.1.2.1) (hs43.2.2.1.2.2)), hs43.2.2.2.1, hs43.2.2.2.2.1, hs43.2.2.2.2.2.1, by decide, b2.1⟩ | omega) (Nat.lt_succ_self _) ?_)))
        intro s48 x49 Is48 Fs48 JRLx_s48 JMDJ_s48 Qs48 hs48
        have b50 := bi_73 Is48
        have b51 := bi_90 Is48
        have b52 := bi_89 Is48
        refine z_const X rfl (ws_forget Qs48.1 ?_)
        exact w_iret X.1 q hRt rfl (ax_d X (show cdA 290 239 = some (.ireturn, 1, 0, 0, 0) from rfl)) (by decide) (by decide) ⟨_, rfl, Is48, fx_end Fs48, JRLx_s48, (-1), rfl, (by decide), Or.inl ⟨by first | (clear hps40 hps32 g31 hps29 g7 hps5 p3; omega) | (clear hps32 g31 hps29 g7 hps5 p3; omega) | omega, by first | (clear hps40 hps32 g31 hps29 g7 hps5 p3; omega) | (clear hps32 g31 hps29 g7 hps5 p3; omega) | omega, (show iI s48 73 = 0 by first | (clear hps40 hps32 g31 hps29 g7 hps5 p3; omega) | (clear hps32 g31 hps29 g7 hps5 p3; omega) | omega), Or.inr ⟨by have z := Qs48.2.2; rw [show x49 = (uN U : Int) by first | (clear hps40 hps32 g31 hps29 g7 hps5 p3; omega) | (clear hps32 g31 hps29 g7 hps5 p3; omega) | omega] at z; exact z, by first | (clear hps40 hps32 g31 hps29 g7 hps5 p3; omega) | (clear hps32 g31 hps29 g7 hps5 p3; omega) | omega⟩⟩⟩
      ·
        refine z_const X rfl ?_
        exact w_iret X.1 q hRt rfl (ax_d X (show cdA 290 39 = some (.ireturn, 1, 0, 0, 0) from rfl)) (Nat.zero_le _) (Nat.zero_le _) ⟨_, rfl, Is32, Gs32, JRLx_s32, 0, rfl, (by decide), Or.inr ⟨by first | (clear g35 hps32 g31 hps29 g7 hps5 p3; omega) | (clear hps32 g31 hps29 g7 hps5 p3; omega) | omega, by first | (clear g35 hps32 g31 hps29 g7 hps5 p3; omega) | (clear hps32 g31 hps29 g7 hps5 p3; omega) | omega⟩⟩
    ·
      refine z_const X rfl (z_goto X (t := 31) rfl rfl (z_const X rfl (zcV_i0 X E 179 (As := [.int (Int32.ofInt 1), .int (Int32.ofInt 1)]) (st := []) rfl rfl rfl rfl (k_bad2 G Is4 (by first | exact Or.inr (by decide) | omega) (by first | exact ⟨by decide, by decide⟩ | omega)) rfl (Nat.le_of_ble_eq_true rfl) (fun s53 e54 Is53 Fs53 hrs53 hps53 => ?_))))
      have Gs53 := fm_tq Fs4 Fs53 rfl rfl
      have JRLx_s53 : RLx s53 := RLx_fm Fs53 (by decide) JRLx_s4
      have JMDJ_s53 : MDJ U s53 := MDJ_fm Fs53 (by decide) JMDJ_s4
      have b55 := bi_73 Is53
      have ws53_90 : iI s53 90 = iI s4 90 := fm_iq Fs53 rfl
      have ws53_89 : iI s53 89 = iI s4 89 := fm_iq Fs53 rfl
      refine z_if_eq X (t := 40) rfl rfl hrs53 (fun g56 => ?_) (fun g56 => ?_)
      ·
        refine z_aload_n X (x := A 179) rfl (List.Mem.head _) (z_load_n X (x := x) rfl (List.Mem.tail _ (List.Mem.head _)) (zcV_v0 X E 179 (As := [.int (Int32.ofInt x)]) (st := []) rfl rfl rfl rfl (k_setOf3 G Is53 (by first | exact ⟨p0.1, p0.2⟩ | omega)) rfl (Nat.le_of_ble_eq_true rfl) (fun s57 Is57 Fs57 hps57 => ?_)))
        have Gs57 := fm_tq Gs53 Fs57 rfl rfl
        have JRLx_s57 : RLx s57 := RLx_fm Fs57 (by decide) JRLx_s53
        have JMDJ_s57 : MDJ U s57 := MDJ_fm Fs57 (by decide) JMDJ_s53
        have ws57_73 : iI s57 73 = iI s53 73 := fm_iq Fs57 rfl
        have ws57_90 : iI s57 90 = iI s53 90 := fm_iq Fs57 rfl
        have ws57_89 : iI s57 89 = iI s53 89 := fm_iq Fs57 rfl
        have hIn : inS s57 = (pcS (pfM s) x) := by rw [soq_in hps57, show pfM s53 = pfM s from funext (fun j => fm_c Gs53 (by decide))]
        refine z_aload_n X (x := A 179) rfl (List.Mem.head _) (z_load_n X (x := y) rfl (List.Mem.tail _ (List.Mem.tail _ (List.Mem.head _))) (zcV_v2 X E 179 (As := [.int (Int32.ofInt y)]) (st := []) rfl rfl rfl rfl (k_asTold6 G Is57 JRLx_s57 JMDJ_s57 (by first | exact ⟨oq_674898f9 g56 hps53 vs4, oq_48516caf g56 hps53 vs4⟩ | omega)) rfl (Nat.le_of_ble_eq_true rfl) (fun s59 Is59 Fs59 JRLx_s59 JNQ_s59 hps59 => ?_)))
        have Gs59 := fm_tq Gs57 Fs59 rfl rfl
        have JRLx_s59 : RLx s59 := RLx_fm Fs59 (by decide) JRLx_s57
        have JMDJ_s59 : MDJ U s59 := MDJ_fm Fs59 (by decide) JMDJ_s57
        have ws59_73 : iI s59 73 = iI s57 73 := fm_iq Fs59 rfl
        have ws59_90 : iI s59 90 = iI s57 90 := fm_iq Fs59 rfl
        have ws59_89 : iI s59 89 = iI s57 89 := fm_iq Fs59 rfl
        have JNW_s59 : NW s59 := NW_of JNQ_s59 JRLx_s59
        have hNW9 := nq_w JMDJ_s59 JNQ_s59
        have hNE9 : NWE U s59 := ⟨JMDJ_s59.1.2, hNW9.1⟩
        have hIn2 : inS s59 = (pcS (pfM s) x) := by rw [ins_fm Fs59 (by decide)]; exact hIn
        refine z_aload_n X (x := A 179) rfl (List.Mem.head _) (zcV_i0 X E 179 (As := []) (st := []) rfl rfl rfl rfl (k_load6 G Is59 JNW_s59 hNW9.2 JMDJ_s59 hNE9 hps59 ) rfl (Nat.le_of_ble_eq_true rfl) (fun s61 e62 Is61 Fs61 hrs61 hps61 => ?_))
        have Gs61 := fm_tq Gs59 Fs61 rfl rfl
        have JRLx_s61 : RLx s61 := RLx_fm Fs61 (by decide) JRLx_s59
        have JMDJ_s61 : MDJ U s61 := MDJ_fm Fs61 (by decide) JMDJ_s59
        have JNW_s61 : NW s61 := NW_fm Fs61 (by decide) JNW_s59
        have JNWL_s61 : NWL s61 := NWL_fm Fs61 (by decide) hNW9.2
        have JNWE_s61 : NWE U s61 := NWE_fm Fs61 (by decide) hNE9
        have JNMQ_s61 : NMQ (uM U (y : Int).toNat) (uN U : Int) s61 := NMQ_fm Fs61 (by decide) hps59
        have ws61_73 : iI s61 73 = iI s59 73 := fm_iq Fs61 rfl
        have ws61_90 : iI s61 90 = iI s59 90 := fm_iq Fs61 rfl
        have ws61_89 : iI s61 89 = iI s59 89 := fm_iq Fs61 rfl
        have hM1 : iI s59 89 = 1 := by first | (clear hps61 hps53 hps29 g7 hps5 p3; omega) | (clear hps53 hps29 g7 hps5 p3; omega) | omega
        have hl : Int32.ofInt e62 = ldH U (pcS (pfM s) x) 1 (y : Int).toNat (-1) := by unfold ldH; rw [mow_n, ← hIn2, ← hM1]; exact hps61.1
        have hIn3 : inS s61 = (pcS (pfM s) x) := by rw [ins_fm Fs61 (by decide)]; exact hIn2
        refine z_store X (lv' := [(5, .int (Int32.ofInt e62)), (0, .ref (A 179)), (1, .int (Int32.ofInt x)), (2, .int (Int32.ofInt y)), (3, .int (Int32.ofInt z)), (4, .int (Int32.ofInt w))]) rfl (by decide) (fun _ h => h) (z_bipush X rfl (z_newX X (n := 12) (by decide) rfl (by rw [E.2.2.2]; decide) (by rw [E.2.2.2]; decide) (fun q1 => ?_)))
        have eXs63 : EXl (pX s) (dT 0) [(q1, 12)] (sx s61 (pX s61 ++ [(q1, .inl (dT 0, 12, .inl (fun _ => 0)))])) := ⟨fun _ _ => 0, by show pX s61 ++ [_] = _; rw [Gs61.2.2.1]; rfl⟩
        have Is63 : Bd (sx s61 (pX s61 ++ [(q1, .inl (dT 0, 12, .inl (fun _ => 0)))])) := Is61
        have Fs63 : FmX [73, 77, 75, 78, 79, 80, 81] [161, 202, 203, 204, 205, 206, 207, 208, 209, 210, 211, 212, 213, 214, 215, 216, 217, 218, 219, 220, 221, 222, 223, 224, 225, 226, 227, 230] s (sx s61 (pX s61 ++ [(q1, .inl (dT 0, 12, .inl (fun _ => 0)))])) := ⟨Gs61.1, Gs61.2.1, Gs61.2.2.2⟩
        have JRLx_s63 : RLx (sx s61 (pX s61 ++ [(q1, .inl (dT 0, 12, .inl (fun _ => 0)))])) := JRLx_s61
        have JMDJ_s63 : MDJ U (sx s61 (pX s61 ++ [(q1, .inl (dT 0, 12, .inl (fun _ => 0)))])) := JMDJ_s61
        have JNW_s63 : NW (sx s61 (pX s61 ++ [(q1, .inl (dT 0, 12, .inl (fun _ => 0)))])) := JNW_s61
        have JNWL_s63 : NWL (sx s61 (pX s61 ++ [(q1, .inl (dT 0, 12, .inl (fun _ => 0)))])) := JNWL_s61
        have JNWE_s63 : NWE U (sx s61 (pX s61 ++ [(q1, .inl (dT 0, 12, .inl (fun _ => 0)))])) := JNWE_s61
        have JNMQ_s63 : NMQ (uM U (y : Int).toNat) (uN U : Int) (sx s61 (pX s61 ++ [(q1, .inl (dT 0, 12, .inl (fun _ => 0)))])) := JNMQ_s61
        have aws63_230 : SAM 230 s61 (sx s61 (pX s61 ++ [(q1, .inl (dT 0, 12, .inl (fun _ => 0)))])) := (sam_rf (a := 230) (s := s61))
        have ws63_73 : iI (sx s61 (pX s61 ++ [(q1, .inl (dT 0, 12, .inl (fun _ => 0)))])) 73 = iI s61 73 := rfl
        have ws63_90 : iI (sx s61 (pX s61 ++ [(q1, .inl (dT 0, 12, .inl (fun _ => 0)))])) 90 = iI s61 90 := rfl
        have ws63_89 : iI (sx s61 (pX s61 ++ [(q1, .inl (dT 0, 12, .inl (fun _ => 0)))])) 89 = iI s61 89 := rfl
        generalize (sx s61 (pX s61 ++ [(q1, .inl (dT 0, 12, .inl (fun _ => 0)))])) = s63 at *
        show WS k 60 [(5, .int (Int32.ofInt e62)), (0, .ref (A 179)), (1, .int (Int32.ofInt x)), (2, .int (Int32.ofInt y)), (3, .int (Int32.ofInt z)), (4, .int (Int32.ofInt w))] [.ref q1] (Wd A dT s63) 1 12
        refine z_astore X (lv' := [(6, .ref q1), (5, .int (Int32.ofInt e62)), (0, .ref (A 179)), (1, .int (Int32.ofInt x)), (2, .int (Int32.ofInt y)), (3, .int (Int32.ofInt z)), (4, .int (Int32.ofInt w))]) rfl (by decide) (fun _ h => h) (z_const X rfl (z_store X (lv' := [(7, .int (Int32.ofInt 0)), (6, .ref q1), (5, .int (Int32.ofInt e62)), (0, .ref (A 179)), (1, .int (Int32.ofInt x)), (2, .int (Int32.ofInt y)), (3, .int (Int32.ofInt z)), (4, .int (Int32.ofInt w))]) rfl (by decide) (fun _ h => h) (WS_pq [3, 1, 6, 7, 2, 0] (lv' := [(0, .ref (A 179)), (6, .ref q1), (3, .int (Int32.ofInt z)), (4, .int (Int32.ofInt w)), (5, .int (Int32.ofInt e62)), (7, .int (Int32.ofInt 0))]) rfl (L65 q1 ((12 - 0 : Int).toNat + 1) s63 z w e62 0 Is63 Fs63 JRLx_s63 JMDJ_s63 JNW_s63 JNWL_s63 JNWE_s63 ⟨eXs63, JNMQ_s63, (ins_s aws63_230).trans hIn3, hl, pxq_0⟩ (by first | exact ⟨And.intro (by decide) (And.intro (p2.1) (p2.2)), And.intro (by decide) (p3), oq_787d67b8 g56 hps53 vs4, oq_e19d9c5d g56 hps53 vs4, oq_f2ff104a g56 hps53 vs4, oq_bbd5784d g56 hps53 vs4, oq_196d10b5 g56 hps53 vs4, by decide, b2.1⟩ | omega) (Nat.lt_succ_self _) ?_))))
        intro s64 x65 Is64 Fs64 JRLx_s64 JMDJ_s64 JNW_s64 JNWL_s64 JNWE_s64 Qs64 hs64
        have b66 := bi_73 Is64
        have b67 := bi_90 Is64
        have b68 := bi_89 Is64
        refine z_const X rfl (z_store X (lv' := [(7, .int (Int32.ofInt 0)), (0, .ref (A 179)), (6, .ref q1), (3, .int (Int32.ofInt z)), (4, .int (Int32.ofInt w)), (5, .int (Int32.ofInt e62))]) rfl (by decide) (fun _ h => h) (WS_pq [1, 2, 3, 4, 0] (lv' := [(0, .ref (A 179)), (6, .ref q1), (3, .int (Int32.ofInt z)), (4, .int (Int32.ofInt w)), (7, .int (Int32.ofInt 0))]) rfl (L121 q1 ((12 - 0 : Int).toNat + 1) s64 z w 0 Is64 Fs64 JRLx_s64 JMDJ_s64 ⟨Qs64.1, by have z := Qs64.2.2.2.2; rw [show x65 = iI s 90 by first | (clear hps61 hps53 hps29 g7 hps5 p3; omega) | (clear hps53 hps29 g7 hps5 p3; omega) | omega] at z; exact z, ldq_0⟩ (by first | exact ⟨And.intro (by decide) (And.intro (hs64.1.2.1) (hs64.1.2.2)), And.intro (by decide) (hs64.2.1.2), And.intro (And.intro (hs64.2.2.1.1.1) (hs64.2.2.1.1.2)) (And.intro (hs64.2.2.1.2.1) (hs64.2.2.1.2.2)), hs64.2.2.2.1, hs64.2.2.2.2.1, hs64.2.2.2.2.2.1, by decide, b2.1⟩ | omega) (Nat.lt_succ_self _) ?_)))
        intro s69 x70 Is69 Fs69 JRLx_s69 JMDJ_s69 Qs69 hs69
        have b71 := bi_73 Is69
        have b72 := bi_90 Is69
        have b73 := bi_89 Is69
        refine z_const X rfl (ws_forget Qs69.1 ?_)
        exact w_iret X.1 q hRt rfl (ax_d X (show cdA 290 239 = some (.ireturn, 1, 0, 0, 0) from rfl)) (by decide) (by decide) ⟨_, rfl, Is69, fx_end Fs69, JRLx_s69, (-1), rfl, (by decide), Or.inl ⟨by first | (clear hps61 hps53 hps29 g7 hps5 p3; omega) | (clear hps53 hps29 g7 hps5 p3; omega) | omega, by first | (clear hps61 hps53 hps29 g7 hps5 p3; omega) | (clear hps53 hps29 g7 hps5 p3; omega) | omega, (show iI s69 73 = 0 by first | (clear hps61 hps53 hps29 g7 hps5 p3; omega) | (clear hps53 hps29 g7 hps5 p3; omega) | omega), Or.inr ⟨by have z := Qs69.2.2; rw [show x70 = (uN U : Int) by first | (clear hps61 hps53 hps29 g7 hps5 p3; omega) | (clear hps53 hps29 g7 hps5 p3; omega) | omega] at z; exact z, by first | (clear hps61 hps53 hps29 g7 hps5 p3; omega) | (clear hps53 hps29 g7 hps5 p3; omega) | omega⟩⟩⟩
      ·
        refine z_const X rfl ?_
        exact w_iret X.1 q hRt rfl (ax_d X (show cdA 290 39 = some (.ireturn, 1, 0, 0, 0) from rfl)) (Nat.zero_le _) (Nat.zero_le _) ⟨_, rfl, Is53, Gs53, JRLx_s53, 0, rfl, (by decide), Or.inr ⟨by first | (clear g56 hps53 hps29 g7 hps5 p3; omega) | (clear hps53 hps29 g7 hps5 p3; omega) | omega, by first | (clear g56 hps53 hps29 g7 hps5 p3; omega) | (clear hps53 hps29 g7 hps5 p3; omega) | omega⟩⟩
end M87ki
