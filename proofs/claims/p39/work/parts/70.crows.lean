/-! Rows for the class: longs, greatest and least, copies, throws -/
section CR
variable {k : kx_T} {mn pc : Nat} {dT : Nat → ClassId} {lv : List (Nat × Value)} {st : List Value} {ws : va_W} {ce sl a b : Nat} {z : Int} {A : Nat → Nat} {s : PS}
theorem z_anyJ {x : Int64} (g : ∀ v : Int64, WS k pc lv (.long v :: st) ws ce sl) : WS k pc lv (.long x :: st) ws ce sl := g x
theorem z_ldc2 (X : AX k mn dT) {idx : Nat} (h : cdA mn pc = some (.ldc2_w idx, 3, a, b, z)) (g : ∀ v : Int64, WS k (pc + 3) lv (.long v :: st) ws ce sl) : WS k pc lv st ws ce sl := w_ldc2 X.1 (by rw [X.2.1.2.1]; exact (ax_r X h).2.2) (ax_d X h) (g _)
theorem z_max (X : AX k mn dT) {idx : Nat} {x y : Int} (h : cdA mn pc = some (.invokestatic idx, 3, a, 7, z)) (hx : rng x) (hy : rng y) (hf : 1 ≤ (kR k).frames) (hl : (st.map fun v => v.category).sum + 13 ≤ (kR k).locals) (hc : ce ≤ (kR k).cells) (hs : sl ≤ (kR k).slots) (g : ∀ e : Int, ((e = x ∧ y ≤ x) ∨ (e = y ∧ x < y)) → WS k (pc + 3) lv (.int (Int32.ofInt e) :: st) ws ce sl) : WS k pc lv (.int (Int32.ofInt y) :: .int (Int32.ofInt x) :: st) ws ce sl := by
  have hq := (ax_r X h).2.2
  rcases hq with ⟨q, -⟩ | ⟨-, h1, h2, h3, h4⟩ | ⟨q, -⟩ | ⟨q, -⟩
  · cases q
  · intro H locs ls hP hD hS hlv
    refine va_mmax X.1.1 X.1.2.1 (X.1.2.2.1.trans hlv.1.symm) X.1.2.2.2.1 (kx_wd X.1 _ (by rw [X.2.1.2.1]; exact h1)) (kx_wd X.1 _ h2) (kx_wd X.1 _ h3) (kx_wd X.1 _ h4) hf hl hc hs (ax_d X h) ?_
    by_cases hh : Int32.ofInt x < Int32.ofInt y
    · rw [if_pos hh]; exact g y (Or.inr ⟨rfl, (zi_lt hx hy).mp hh⟩) H locs ls hP hD hS hlv
    · rw [if_neg hh]; exact g x (Or.inl ⟨rfl, Int.not_lt.mp (fun q => hh ((zi_lt hx hy).mpr q))⟩) H locs ls hP hD hS hlv
  · cases q
  · rcases q with q | q <;> cases q
theorem z_min (X : AX k mn dT) {idx : Nat} {x y : Int} (h : cdA mn pc = some (.invokestatic idx, 3, a, 8, z)) (hx : rng x) (hy : rng y) (hf : 1 ≤ (kR k).frames) (hl : (st.map fun v => v.category).sum + 13 ≤ (kR k).locals) (hc : ce ≤ (kR k).cells) (hs : sl ≤ (kR k).slots) (g : ∀ e : Int, ((e = x ∧ x ≤ y) ∨ (e = y ∧ y < x)) → WS k (pc + 3) lv (.int (Int32.ofInt e) :: st) ws ce sl) : WS k pc lv (.int (Int32.ofInt y) :: .int (Int32.ofInt x) :: st) ws ce sl := by
  have hq := (ax_r X h).2.2
  rcases hq with ⟨q, -⟩ | ⟨q, -⟩ | ⟨-, h1, h2, h3, h4⟩ | ⟨q, -⟩
  · cases q
  · cases q
  · intro H locs ls hP hD hS hlv
    refine va_mmin X.1.1 X.1.2.1 (X.1.2.2.1.trans hlv.1.symm) X.1.2.2.2.1 (kx_wd X.1 _ (by rw [X.2.1.2.1]; exact h1)) (kx_wd X.1 _ h2) (kx_wd X.1 _ h3) (kx_wd X.1 _ h4) hf hl hc hs (ax_d X h) ?_
    by_cases hh : Int32.ofInt y < Int32.ofInt x
    · rw [if_pos hh]; exact g y (Or.inr ⟨rfl, (zi_lt hy hx).mp hh⟩) H locs ls hP hD hS hlv
    · rw [if_neg hh]; exact g x (Or.inl ⟨rfl, Int.not_lt.mp (fun q => hh ((zi_lt hy hx).mpr q))⟩) H locs ls hP hD hS hlv
  · rcases q with q | q <;> cases q
theorem z_alen (X : AX k mn dT) (c : Nat) {n t0 : Nat} {bb : List AV ⊕ (Int × Int × Nat)} (h : cdA mn pc = some (.arraylength, 1, a, b, z)) (hc : c < 518) (hb : bsS c = .inl (t0, n, bb)) (ht : min t0 5 = t0) (g : WS k (pc + 1) lv (.int (Int32.ofInt (n : Int)) :: st) (Wd A dT s) ce sl) : WS k pc lv (.ref (A c) :: st) (Wd A dT s) ce sl := by
  have he := Wd_get (A := A) (dT := dT) (s := s) hc
  rw [hb] at he
  have h2 := X.2.2.1 t0
  exact w_alen X.1 c he h2 (ax_d X h) g
/-- the array b of a picture, anew -/
def stC (s : PS) (b : Nat) (f : Nat → Int32) : PS := (s.1, s.2.1, (fun c => if c = b then f else s.2.2.1 c), s.2.2.2)
theorem cC_stC {c b j : Nat} {f : Nat → Int32} (hk : owA b = c) (hj : j < 518) (hne : j ≠ c) : cC (vS A (stC s b f)) dT (bsS j) = cC (vS A s) dT (bsS j) := by
  have h := okCell_at hj
  unfold okCell at h
  cases hb : bsS j with
  | inr q => obtain ⟨ci, fs⟩ := q; rfl
  | inl q =>
    obtain ⟨t, n, bb⟩ := q
    rw [hb] at h
    rcases bb with l | ⟨lo, hi, a'⟩
    · rfl
    · have e := Nat.eq_of_beq_eq_true h
      have ne : a' ≠ b := fun q => hne (by rw [← hk, ← q]; exact e.symm)
      show Sum.inl (dT t, n, cB _ t n (.inr (lo, hi, a'))) = Sum.inl (dT t, n, cB _ t n (.inr (lo, hi, a')))
      congr 3
      refine cB_ext (fun _ m _ => ?_) (fun _ m _ => rfl) (fun _ m _ => rfl)
      show (if a' = b then f else s.2.2.1 a') m = s.2.2.1 a' m
      rw [if_neg ne]
theorem put_stC {c n b : Nat} {f : Nat → Int32} (hc : c < 518) (hb : bsS c = .inl (0, n, .inr (0, 0, b))) (hf : ∀ j, n ≤ j → f j = 0) : (Wd A dT s).set c (A c, .inl (dT 0, n, .inl f)) = Wd A dT (stC s b f) := by
  have h := okCell_at hc
  unfold okCell at h
  rw [hb] at h
  have e := Nat.eq_of_beq_eq_true h
  refine Wd_set rfl hc ?_ (fun j hj hne => cC_stC e hj hne)
  rw [hb]
  have : f = fun j => if j < n then (if b = b then f else s.2.2.1 b) j else 0 := by
    funext j
    rw [if_pos rfl]
    by_cases q : j < n
    · rw [if_pos q]
    · rw [if_neg q]; exact hf j (by omega)
  exact congrArg (fun g : Nat → Int32 => (Sum.inl (dT 0, n, Sum.inl g) : va_E)) this
theorem z_copy (X : AX k mn dT) (I : Bd s) (c0 c1 : Nat) {idx n0 n1 b0 b1 : Nat} {sp dp n : Int} (h : cdA mn pc = some (.invokestatic idx, 3, a, 5, z)) (hc0 : c0 < 518) (hc1 : c1 < 518) (hb0 : bsS c0 = .inl (0, n0, .inr (0, 0, b0))) (hb1 : bsS c1 = .inl (0, n1, .inr (0, 0, b1))) (hs : 0 ≤ sp ∧ sp ≤ 100000) (hd : 0 ≤ dp ∧ dp ≤ 100000) (hn : 0 ≤ n ∧ n ≤ 100000) (h4 : sp + n ≤ n0) (h5 : dp + n ≤ n1) (hA : (bA b1).1 ≤ (bA b0).1 ∧ (bA b0).2.1 ≤ (bA b1).2.1 ∧ (bA b0).2.2 = n0 ∧ (bA b1).2.2 = n1)
    (hf : 1 ≤ (kR k).frames) (hlo : (st.map fun v => v.category).sum + 40 ≤ (kR k).locals) (g : ∀ t : PS, Bd t → Fm [] [b1] s t → WS k (pc + 3) lv st (Wd A dT t) ce sl) : WS k pc lv (.int (Int32.ofInt n) :: .int (Int32.ofInt dp) :: .ref (A c1) :: .int (Int32.ofInt sp) :: .ref (A c0) :: st) (Wd A dT s) ce sl := by
  have hq := (ax_r X h).2.2
  rcases hq with ⟨-, w1, w2, w3, w4⟩ | ⟨q, -⟩ | ⟨q, -⟩ | ⟨q, -⟩
  · obtain ⟨m1, m2⟩ := nat_of hs.1 hs.2
    obtain ⟨m3, m4⟩ := nat_of hd.1 hd.2
    obtain ⟨m5, m6⟩ := nat_of hn.1 hn.2
    have w40 : nativeFrameWords "java/lang/System" "arraycopy" 5 + 11 ≤ 40 := by decide +kernel
    refine w_copyi X.1 (q0 := c0) (q1 := c1) (by rw [X.2.1.2.1]; exact w1) w2 w3 w4 (get_C (Or.inl rfl) hc0 hb0) (get_C (Or.inl rfl) hc1 hb1) (X.2.2.1 0) m1 m3 m5 (by rw [m2, m6]; omega) (by rw [m4, m6]; omega) hf (by omega) (ax_d X h) ?_
    rw [m2, m4, m6]
    rw [put_stC hc1 hb1 (fun j hj => by
      unfold va_cpy
      rw [if_neg (by omega)]
      show (if j < n1 then gC s b1 j else 0) = 0
      rw [if_neg (by omega)])]
    refine g _ ⟨fun q => I.1 q, fun c j hj => ?_⟩ ⟨fun _ _ => rfl, fun c hc => ?_, rfl, fun _ _ => rfl, fun _ _ => rfl⟩
    · by_cases e : c = b1
      · subst e
        have e1 : gC (stC s c (va_cpy (fun j => if j < n0 then gC s b0 j else 0) (fun j => if j < n1 then gC s c j else 0) sp.toNat dp.toNat n.toNat)) c j = va_cpy (fun j => if j < n0 then gC s b0 j else 0) (fun j => if j < n1 then gC s c j else 0) sp.toNat dp.toNat n.toNat j := by
          unfold gC stC
          exact congrFun (if_pos rfl) j
        show (bA c).1 ≤ (gC (stC s c _) c j).toInt ∧ (gC (stC s c _) c j).toInt ≤ (bA c).2.1
        rw [e1]
        unfold va_cpy
        by_cases r : dp.toNat ≤ j ∧ j < dp.toNat + n.toNat
        · rw [if_pos r]
          show (bA c).1 ≤ (if sp.toNat + (j - dp.toNat) < n0 then gC s b0 (sp.toNat + (j - dp.toNat)) else 0).toInt ∧ (if sp.toNat + (j - dp.toNat) < n0 then gC s b0 (sp.toNat + (j - dp.toNat)) else 0).toInt ≤ (bA c).2.1
          rw [if_pos (by omega)]
          have := I.2 b0 (sp.toNat + (j - dp.toNat)) (by rw [hA.2.2.1]; omega)
          exact ⟨Int.le_trans hA.1 this.1, Int.le_trans this.2 hA.2.1⟩
        · rw [if_neg r]
          show (bA c).1 ≤ (if j < n1 then gC s c j else 0).toInt ∧ (if j < n1 then gC s c j else 0).toInt ≤ (bA c).2.1
          rw [if_pos (by rw [hA.2.2.2] at hj; exact hj)]
          exact I.2 c j hj
      · have e1 : gC (stC s b1 (va_cpy (fun j => if j < n0 then gC s b0 j else 0) (fun j => if j < n1 then gC s b1 j else 0) sp.toNat dp.toNat n.toNat)) c j = gC s c j := by
          unfold gC stC
          exact congrFun (if_neg e) j
        show (bA c).1 ≤ (gC (stC s b1 _) c j).toInt ∧ (gC (stC s b1 _) c j).toInt ≤ (bA c).2.1
        rw [e1]
        exact I.2 c j hj
    · show (if c = b1 then _ else s.2.2.1 c) = _
      rw [if_neg (fun q => hc (by rw [q]; exact List.mem_singleton_self _))]
  · cases q
  · cases q
  · rcases q with q | q <;> cases q
theorem and_ex {m : Int} {f : Int → Int} (hm : 0 ≤ m ∧ m ≤ 127) (hf : ∀ x : Nat, x < 128 → ((Nat.land x m.toNat : Nat) : Int) = f x) {x : Int} (hx : 0 ≤ x ∧ x ≤ 127) : Int32.ofInt x &&& Int32.ofInt m = Int32.ofInt (f x) := by
  rw [← z_and]
  have ex : zN x = x.toNat := by unfold zN; omega
  have em : zN m = m.toNat := by unfold zN; omega
  have e2 : Nat.land x.toNat m.toNat ≤ m.toNat := Nat.and_le_right
  have e3 : zOf (Nat.land (zN x) (zN m)) = (Nat.land x.toNat m.toNat : Int) := by
    rw [ex, em]
    unfold zOf
    rw [if_pos (Nat.ble_eq.mpr (by omega))]
  rw [e3, hf x.toNat (by omega), Int.toNat_of_nonneg hx.1]
theorem z_and7 (X : AX k mn dT) {x : Int} (h : cdA mn pc = some (.iand, 1, a, b, z)) (hx : 0 ≤ x ∧ x ≤ 127) (g : WS k (pc + 1) lv (.int (Int32.ofInt (x % 8)) :: st) ws ce sl) : WS k pc lv (.int (Int32.ofInt 7) :: .int (Int32.ofInt x) :: st) ws ce sl := by
  refine w_iand X.1 (ax_d X h) ?_
  rw [and_ex (m := 7) (f := fun x => x % 8) (by decide) (by decide +kernel) hx]
  exact g
theorem z_and56 (X : AX k mn dT) {x : Int} (h : cdA mn pc = some (.iand, 1, a, b, z)) (hx : 0 ≤ x ∧ x ≤ 127) (g : WS k (pc + 1) lv (.int (Int32.ofInt (x / 8 % 8 * 8)) :: st) ws ce sl) : WS k pc lv (.int (Int32.ofInt 56) :: .int (Int32.ofInt x) :: st) ws ce sl := by
  refine w_iand X.1 (ax_d X h) ?_
  rw [and_ex (m := 56) (f := fun x => x / 8 % 8 * 8) (by decide) (by decide +kernel) hx]
  exact g
theorem z_divany (X : AX k mn dT) {x y : Int} (h : cdA mn pc = some (.idiv, 1, a, b, z)) (hy : y ≠ 0) (hr : rng y) (g : ∀ e : Int, rng e → WS k (pc + 1) lv (.int (Int32.ofInt e) :: st) ws ce sl) : WS k pc lv (.int (Int32.ofInt y) :: .int (Int32.ofInt x) :: st) ws ce sl :=
  w_idiv X.1 (ax_d X h) (fun q => by
    have := congrArg Int32.toInt q
    rw [zi hr] at this
    have e0 : (0 : Int32).toInt = 0 := rfl
    omega) (z_any g)
theorem z_getJ (X : AX k mn dT) (c : Nat) {idx ci f q : Nat} {fs : List AV} (h : cdA mn pc = some (.getfield idx, 3, ci, f, 0)) (hc : c < 518) (hb : bsS c = .inr (ci, fs)) (hf : fs[f]? = some (aU q)) (g : ∀ v : Int64, WS k (pc + 3) lv (.long v :: st) (Wd A dT s) ce sl) : WS k pc lv (.ref (A c) :: st) (Wd A dT s) ce sl := s_getJ X c h hc hb hf (g _)
theorem z_lald (X : AX k mn dT) (c : Nat) {n q : Nat} {i : Int} (h : cdA mn pc = some (.laload, 1, 0, 0, 0)) (hc : c < 518) (hb : bsS c = .inl (1, n, .inr (0, 0, q))) (h0 : 0 ≤ i) (hi : i < (n : Int)) (hn : n < 2147483648) (g : ∀ v : Int64, WS k (pc + 1) lv (.long v :: st) (Wd A dT s) ce sl) : WS k pc lv (.int (Int32.ofInt i) :: .ref (A c) :: st) (Wd A dT s) ce sl := by
  rw [on_of h0]
  exact s_lald X c h hc hb (by omega) hn (g _)
theorem z_last (X : AX k mn dT) (c : Nat) {n q : Nat} {i : Int} {x : Int64} (h : cdA mn pc = some (.lastore, 1, 0, 0, 0)) (hc : c < 518) (hb : bsS c = .inl (1, n, .inr (0, 0, q))) (h0 : 0 ≤ i) (hi : i < (n : Int)) (hn : n < 2147483648) (g : WS k (pc + 1) lv st (Wd A dT (uD s q i.toNat x)) ce sl) : WS k pc lv (.long x :: .int (Int32.ofInt i) :: .ref (A c) :: st) (Wd A dT s) ce sl := by
  rw [on_of h0]
  exact s_last X c h hc hb (by omega) hn g
theorem fit_z {y : Int} (h : y = 0 ∨ y = 1) : fits .boolean (.int (Int32.ofInt y)) = true := by
  rcases h with h | h <;> rw [h] <;> rfl
theorem z_anyE {x : Int32} (g : ∀ e : Int, rng e → WS k pc lv (.int (Int32.ofInt e) :: st) ws ce sl) : WS k pc lv (.int x :: st) ws ce sl := by
  have := g x.toInt (rng_to x)
  rwa [ofi_to] at this
end CR
section CT2
variable {l : Launch} {s0 : State} {D : va_G} {tys : List (ClassId × FieldType)} {a0 : Array Value} {A : Nat → Nat} {dT : Nat → ClassId} {s : PS}
/-- a contract by a walk of the body, types told too -/
theorem ct_ofX (G : GX l s0 D tys a0 dT) {mn : Nat} {rm : Room} {vals : List Value} {Q : mb_O → PS → Prop} (hy : plainName (yA mn).cls = true) (hn : (lg_sl vals).length ≤ mNL (miB mn))
    (body : ∀ k, AX k mn dT → (kL k = l ∧ kS0 k = s0 ∧ kD k = D ∧ kR k = rm) → kTy k = tys → (kMe k).sig.returnType = rtA mn → (∀ x ∈ (kC k).exceptionTable.toList, False) → kx_end k (fun o ws => ∃ s', ws = Wd A dT s' ∧ Q o s') rm.cells rm.slots → WS k 0 (lv_args 0 vals) [] (Wd A dT s) 0 0) : CT l s0 D A dT mn rm vals s Q :=
  mb_of G.1 hy hn (fun k C e1 e2 e3 e4 e5 e6 e7 e8 e9 e10 e11 qe => body k ⟨C, ⟨e7, e6, e8⟩, fun t => by rw [e5]; exact G.2.1 t, by rw [e3]; exact G.2.2⟩ ⟨e1, e3, e4, e2⟩ e5 e9 e11 qe)
theorem z_throw {k : kx_T} {mn pc : Nat} {lv : List (Nat × Value)} {st : List Value} {ws : va_W} {ce sl mc ms a b idx : Nat} {z : Int} {rm : Room} {K : mb_O → va_W → Prop} (G : GX l s0 D tys a0 dT) (X : AX k mn dT) (E : kL k = l ∧ kS0 k = s0 ∧ kD k = D ∧ kR k = rm) (ET : kTy k = tys) (hX : ∀ x ∈ (kC k).exceptionTable.toList, False) (q : kx_end k K mc ms) (h : cdA mn pc = some (.new idx, 3, a, b, z)) (hb : b ≠ 0) (r1 : 5 < rm.frames) (r2 : (st.map fun v => v.category).sum + 82 ≤ rm.locals) (r3 : ce + 1 ≤ rm.cells) (r4 : sl + 6 ≤ rm.slots) (r5 : ce + 1 ≤ mc) (r6 : sl + 6 ≤ ms) (hk : K (.inr (exN a)) ws) : WS k pc lv st ws ce sl := by
  have hq := (ax_r X h).2.2
  have Z : z0_ok (kL k) (kS0 k) a0 (kD k) (kTy k) := by rw [E.1, E.2.1, E.2.2.1, ET]; exact G.1
  rcases hq with ⟨q0, -⟩ | ⟨-, ic, is, ix, rx, text, e1, e2, e3, e4, e5, e6⟩
  · exact absurd q0 hb
  · have hd : kCc k = byA mn := X.2.1.1
    rcases e6 with ⟨f1, f2, f3⟩ | ⟨f1, f2, f3⟩
    · exact w_throw X.1 Z e1 (by rw [X.2.1.2.1]; exact e2) e4 q (fun x hx => (hX x hx).elim) (ax_d X h) (by rw [hd]; exact e5) (by rw [hd]; exact f1) (by rw [hd]; exact f2) (by rw [hd]; exact f3) (by rw [E.2.2.2]; exact r1) (by rw [E.2.2.2]; exact r2) (by rw [E.2.2.2]; exact r3) (by rw [E.2.2.2]; exact r4) r5 r6 hk
    · exact w_throwW X.1 Z e1 (by rw [X.2.1.2.1]; exact e2) e4 q (fun x hx => (hX x hx).elim) (ax_d X h) (by rw [hd]; exact e5) (by rw [hd]; exact f1) (by rw [hd]; exact f2) (by rw [hd]; exact f3) (by rw [E.2.2.2]; exact r1) (by rw [E.2.2.2]; exact r2) (by rw [E.2.2.2]; exact r3) (by rw [E.2.2.2]; exact r4) r5 r6 hk
end CT2
theorem w_lookup {k : kx_T} {pc : Nat} {lv : List (Nat × Value)} {st : List Value} {ws : va_W} {ce sl : Nat} (C : kx_ok k) {dflt off : Int} {ps : Array (Int × Int)} {len t : Nat} {x : Int32} (d : decode (kCc k) pc = .ok (.lookupswitch dflt ps, len)) (hp : (ps.toList.zip (ps.toList.drop 1)).all (fun (a, next) => a.1 < next.1) = true) (ho : Op.lookupswitch.offset ps.toList dflt x.toInt = off) (ht : (pc : Int) + off = (t : Int)) (h : WS k t lv st ws ce sl) : WS k pc lv (.int x :: st) ws ce sl :=
  fun H locs ls hP hD hS hl => lv_lookup C.1 C.2.1 d hp ho ht (h H locs ls hP hD hS hl)
section CB
variable {dT : Nat → ClassId} {A : Nat → Nat} {s : PS}
theorem j_bitI {l : Launch} {s0 : State} {D : va_G} {tys : List (ClassId × FieldType)} {a0 : Array Value} (G : GX l s0 D tys a0 dT) (I : Bd s) {x : Int} (p0 : rng x) : CT l s0 D A dT 296 (rmN 296) [.int (Int32.ofInt x)] s (fun o t => Bd t ∧ Fm [] [] s t ∧ ∃ e, o = .inl (some (.int (Int32.ofInt e))) ∧ rng e ∧ (True)) := by
  refine ct_ofX G (by decide) (Nat.le_of_ble_eq_true rfl) (fun k X E ET hRt hXt q => ?_)
  show WS k 0 [(0, .int (Int32.ofInt x))] [] _ 0 0
  refine w_iload_n X.1 (x := Int32.ofInt x) (show decode (kCc k) 0 = .ok (.iload_n 0, 1) by rw [X.2.1.1]; decide +kernel) (List.Mem.head _) (w_iload_n X.1 (x := Int32.ofInt x) (show decode (kCc k) 1 = .ok (.iload_n 0, 1) by rw [X.2.1.1]; decide +kernel) (List.Mem.head _) (w_iconst X.1 (show decode (kCc k) 2 = .ok (.iconst 1, 1) by rw [X.2.1.1]; decide +kernel) (w_iushr X.1 (show decode (kCc k) 3 = .ok (.iushr, 1) by rw [X.2.1.1]; decide +kernel) (w_ldcw X.1 (z := 1431655765) (by rw [X.2.1.2.1]; exact chkW_ok (p := (7, 78)) (by decide +kernel)) (show decode (kCc k) 4 = .ok (.ldc_w 265, 3) by rw [X.2.1.1]; decide +kernel) (w_iand X.1 (show decode (kCc k) 7 = .ok (.iand, 1) by rw [X.2.1.1]; decide +kernel) (w_isub X.1 (show decode (kCc k) 8 = .ok (.isub, 1) by rw [X.2.1.1]; decide +kernel) (z_anyE (fun v1 hv1 => ?_))))))))
  refine w_istore_n X.1 (lv' := [(0, .int (Int32.ofInt v1))]) (show decode (kCc k) 9 = .ok (.istore_n 0, 1) by rw [X.2.1.1]; decide +kernel) (by rw [X.2.1.2.2]; decide) (fun q h => List.mem_cons.mpr (Or.inl (List.mem_singleton.mp h))) (w_iload_n X.1 (x := Int32.ofInt v1) (show decode (kCc k) 10 = .ok (.iload_n 0, 1) by rw [X.2.1.1]; decide +kernel) (List.Mem.head _) (w_ldcw X.1 (z := 858993459) (by rw [X.2.1.2.1]; exact chkW_ok (p := (7, 79)) (by decide +kernel)) (show decode (kCc k) 11 = .ok (.ldc_w 266, 3) by rw [X.2.1.1]; decide +kernel) (w_iand X.1 (show decode (kCc k) 14 = .ok (.iand, 1) by rw [X.2.1.1]; decide +kernel) (w_iload_n X.1 (x := Int32.ofInt v1) (show decode (kCc k) 15 = .ok (.iload_n 0, 1) by rw [X.2.1.1]; decide +kernel) (List.Mem.head _) (w_iconst X.1 (show decode (kCc k) 16 = .ok (.iconst 2, 1) by rw [X.2.1.1]; decide +kernel) (w_iushr X.1 (show decode (kCc k) 17 = .ok (.iushr, 1) by rw [X.2.1.1]; decide +kernel) (w_ldcw X.1 (z := 858993459) (by rw [X.2.1.2.1]; exact chkW_ok (p := (7, 79)) (by decide +kernel)) (show decode (kCc k) 18 = .ok (.ldc_w 266, 3) by rw [X.2.1.1]; decide +kernel) (w_iand X.1 (show decode (kCc k) 21 = .ok (.iand, 1) by rw [X.2.1.1]; decide +kernel) (w_iadd X.1 (show decode (kCc k) 22 = .ok (.iadd, 1) by rw [X.2.1.1]; decide +kernel) (z_anyE (fun v2 hv2 => ?_)))))))))))
  refine w_istore_n X.1 (lv' := [(0, .int (Int32.ofInt v2))]) (show decode (kCc k) 23 = .ok (.istore_n 0, 1) by rw [X.2.1.1]; decide +kernel) (by rw [X.2.1.2.2]; decide) (fun q h => List.mem_cons.mpr (Or.inl (List.mem_singleton.mp h))) (w_iload_n X.1 (x := Int32.ofInt v2) (show decode (kCc k) 24 = .ok (.iload_n 0, 1) by rw [X.2.1.1]; decide +kernel) (List.Mem.head _) (w_iload_n X.1 (x := Int32.ofInt v2) (show decode (kCc k) 25 = .ok (.iload_n 0, 1) by rw [X.2.1.1]; decide +kernel) (List.Mem.head _) (w_iconst X.1 (show decode (kCc k) 26 = .ok (.iconst 4, 1) by rw [X.2.1.1]; decide +kernel) (w_iushr X.1 (show decode (kCc k) 27 = .ok (.iushr, 1) by rw [X.2.1.1]; decide +kernel) (w_iadd X.1 (show decode (kCc k) 28 = .ok (.iadd, 1) by rw [X.2.1.1]; decide +kernel) (w_ldcw X.1 (z := 252645135) (by rw [X.2.1.2.1]; exact chkW_ok (p := (7, 80)) (by decide +kernel)) (show decode (kCc k) 29 = .ok (.ldc_w 267, 3) by rw [X.2.1.1]; decide +kernel) (w_iand X.1 (show decode (kCc k) 32 = .ok (.iand, 1) by rw [X.2.1.1]; decide +kernel) (z_anyE (fun v3 hv3 => ?_)))))))))
  refine w_istore_n X.1 (lv' := [(0, .int (Int32.ofInt v3))]) (show decode (kCc k) 33 = .ok (.istore_n 0, 1) by rw [X.2.1.1]; decide +kernel) (by rw [X.2.1.2.2]; decide) (fun q h => List.mem_cons.mpr (Or.inl (List.mem_singleton.mp h))) (w_iload_n X.1 (x := Int32.ofInt v3) (show decode (kCc k) 34 = .ok (.iload_n 0, 1) by rw [X.2.1.1]; decide +kernel) (List.Mem.head _) (w_iload_n X.1 (x := Int32.ofInt v3) (show decode (kCc k) 35 = .ok (.iload_n 0, 1) by rw [X.2.1.1]; decide +kernel) (List.Mem.head _) (w_bipush X.1 (show decode (kCc k) 36 = .ok (.bipush 8, 2) by rw [X.2.1.1]; decide +kernel) rfl (w_iushr X.1 (show decode (kCc k) 38 = .ok (.iushr, 1) by rw [X.2.1.1]; decide +kernel) (w_iadd X.1 (show decode (kCc k) 39 = .ok (.iadd, 1) by rw [X.2.1.1]; decide +kernel) (z_anyE (fun v4 hv4 => ?_)))))))
  refine w_istore_n X.1 (lv' := [(0, .int (Int32.ofInt v4))]) (show decode (kCc k) 40 = .ok (.istore_n 0, 1) by rw [X.2.1.1]; decide +kernel) (by rw [X.2.1.2.2]; decide) (fun q h => List.mem_cons.mpr (Or.inl (List.mem_singleton.mp h))) (w_iload_n X.1 (x := Int32.ofInt v4) (show decode (kCc k) 41 = .ok (.iload_n 0, 1) by rw [X.2.1.1]; decide +kernel) (List.Mem.head _) (w_iload_n X.1 (x := Int32.ofInt v4) (show decode (kCc k) 42 = .ok (.iload_n 0, 1) by rw [X.2.1.1]; decide +kernel) (List.Mem.head _) (w_bipush X.1 (show decode (kCc k) 43 = .ok (.bipush 16, 2) by rw [X.2.1.1]; decide +kernel) rfl (w_iushr X.1 (show decode (kCc k) 45 = .ok (.iushr, 1) by rw [X.2.1.1]; decide +kernel) (w_iadd X.1 (show decode (kCc k) 46 = .ok (.iadd, 1) by rw [X.2.1.1]; decide +kernel) (z_anyE (fun v5 hv5 => ?_)))))))
  refine w_istore_n X.1 (lv' := [(0, .int (Int32.ofInt v5))]) (show decode (kCc k) 47 = .ok (.istore_n 0, 1) by rw [X.2.1.1]; decide +kernel) (by rw [X.2.1.2.2]; decide) (fun q h => List.mem_cons.mpr (Or.inl (List.mem_singleton.mp h))) (w_iload_n X.1 (x := Int32.ofInt v5) (show decode (kCc k) 48 = .ok (.iload_n 0, 1) by rw [X.2.1.1]; decide +kernel) (List.Mem.head _) (w_bipush X.1 (show decode (kCc k) 49 = .ok (.bipush 63, 2) by rw [X.2.1.1]; decide +kernel) rfl (w_iand X.1 (show decode (kCc k) 51 = .ok (.iand, 1) by rw [X.2.1.1]; decide +kernel) (z_anyE (fun vv hvv => ?_)))))
  exact w_iret X.1 q hRt rfl (show decode (kCc k) 52 = .ok (.ireturn, 1) by rw [X.2.1.1]; decide +kernel) (Nat.zero_le _) (Nat.zero_le _) ⟨_, rfl, I, fm_rf _ _ s, vv, rfl, hvv, trivial⟩
end CB
