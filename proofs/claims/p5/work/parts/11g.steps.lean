/-! Steps: constants, locals, numbers, stack, branches -/
section ST
variable {k : kx_T} {x : ACx} {mn c : Nat} {dT : Nat → ClassId} {w0 : AW} {v0 : VL} {s : AS} {v : VL} {Rs : List AR}
theorem w_ldc {pc : Nat} {lv : List (Nat × Value)} {st : List Value} {ws : va_W} {ce sl : Nat} (C : kx_ok k) {idx : Nat} {z : Int32} (hc : Cond.constant (kOwn k) idx z ∈ gT) (d : decode (kCc k) pc = .ok (.ldc idx, 2)) (h : WS k (pc + 2) lv (.int z :: st) ws ce sl) : WS k pc lv st ws ce sl :=
  fun H locs ls hP hD hS hl => lv_ldc C.1 C.2.1 C.2.2.2.1 (kx_wd C _ hc) d (h H locs ls hP hD hS hl)
theorem w_ldcw {pc : Nat} {lv : List (Nat × Value)} {st : List Value} {ws : va_W} {ce sl : Nat} (C : kx_ok k) {idx : Nat} {z : Int32} (hc : Cond.constant (kOwn k) idx z ∈ gT) (d : decode (kCc k) pc = .ok (.ldc_w idx, 3)) (h : WS k (pc + 3) lv (.int z :: st) ws ce sl) : WS k pc lv st ws ce sl :=
  fun H locs ls hP hD hS hl => lv_ldcw C.1 C.2.1 C.2.2.2.1 (kx_wd C _ hc) d (h H locs ls hP hD hS hl)
theorem w_ldc2 {pc : Nat} {lv : List (Nat × Value)} {st : List Value} {ws : va_W} {ce sl : Nat} (C : kx_ok k) {idx : Nat} {z : Int64} (hc : Cond.constantLong (kOwn k) idx z ∈ gT) (d : decode (kCc k) pc = .ok (.ldc2_w idx, 3)) (h : WS k (pc + 3) lv (.long z :: st) ws ce sl) : WS k pc lv st ws ce sl :=
  fun H locs ls hP hD hS hl => lv_ldc2 C.1 C.2.1 C.2.2.2.1 (kx_wd C _ hc) d (h H locs ls hP hD hS hl)
theorem psh_ok {len : Nat} {a : AV} (so : SO k x mn c dT w0 v0 Rs (oPsh s len a)) (I : Inv k x mn c dT w0 v0 s v) (ha : scV (sW s) a) : WS k (sPc s + len) (cL v (sLv s)) (cv v a :: (sSt s).map (cv v)) (cW v dT (xB x) (wH (sW s))) (sC s) (sS s) :=
  gs_same (SO_one so) I (sc_cons ha I.2.2.2.2.1)
theorem g_iconst (C : kx_ok k) {n : Int} (d : decode (kCc k) (sPc s) = .ok (.iconst n, 1)) (so : SO k x mn c dT w0 v0 Rs (oPsh s 1 (aI n))) : GS k x mn c dT w0 v0 s := fun _ I => w_iconst C d (psh_ok so I trivial)
theorem g_bipush (C : kx_ok k) {n z : Int} (hz : (Int8.ofInt n).toInt32 = Int32.ofInt z) (d : decode (kCc k) (sPc s) = .ok (.bipush n, 2)) (so : SO k x mn c dT w0 v0 Rs (oPsh s 2 (aI z))) : GS k x mn c dT w0 v0 s := fun _ I => w_bipush C d hz (psh_ok so I trivial)
theorem g_sipush (C : kx_ok k) {n z : Int} (hz : (Int16.ofInt n).toInt32 = Int32.ofInt z) (d : decode (kCc k) (sPc s) = .ok (.sipush n, 3)) (so : SO k x mn c dT w0 v0 Rs (oPsh s 3 (aI z))) : GS k x mn c dT w0 v0 s := fun _ I => w_sipush C d hz (psh_ok so I trivial)
theorem g_ldc (C : kx_ok k) {idx : Nat} {z : Int} (hc : Cond.constant (kOwn k) idx (Int32.ofInt z) ∈ gT) (d : decode (kCc k) (sPc s) = .ok (.ldc idx, 2)) (so : SO k x mn c dT w0 v0 Rs (oPsh s 2 (aI z))) : GS k x mn c dT w0 v0 s := fun _ I => w_ldc C hc d (psh_ok so I trivial)
theorem g_ldcw (C : kx_ok k) {idx : Nat} {z : Int} (hc : Cond.constant (kOwn k) idx (Int32.ofInt z) ∈ gT) (d : decode (kCc k) (sPc s) = .ok (.ldc_w idx, 3)) (so : SO k x mn c dT w0 v0 Rs (oPsh s 3 (aI z))) : GS k x mn c dT w0 v0 s := fun _ I => w_ldcw C hc d (psh_ok so I trivial)
theorem g_ldc2 (C : kx_ok k) {idx n : Nat} (hc : Cond.constantLong (kOwn k) idx (lN n) ∈ gT) (d : decode (kCc k) (sPc s) = .ok (.ldc2_w idx, 3)) (so : SO k x mn c dT w0 v0 Rs (oPsh s 3 (aJ n))) : GS k x mn c dT w0 v0 s := fun _ I => w_ldc2 C hc d (psh_ok so I trivial)
theorem g_lconst (C : kx_ok k) {n : Fin 2} (d : decode (kCc k) (sPc s) = .ok (.lconst n, 1)) (so : SO k x mn c dT w0 v0 Rs (oPsh s 1 (aJ (n : Nat)))) : GS k x mn c dT w0 v0 s := fun _ I => w_lconst C d rfl (psh_ok so I trivial)
/-- loads -/
theorem ldv_ok {len i : Nat} {p : AV → Bool} (so : SO k x mn c dT w0 v0 Rs (oLdv s len i p)) (I : Inv k x mn c dT w0 v0 s v) : ∃ a, p a = true ∧ (i, cv v a) ∈ cL v (sLv s) ∧ WS k (sPc s + len) (cL v (sLv s)) (cv v a :: (sSt s).map (cv v)) (cW v dT (xB x) (wH (sW s))) (sC s) (sS s) := by
  unfold oLdv at so
  cases hg : lGet (sLv s) i with
  | none => rw [hg] at so; exact SO_no so
  | some a =>
    rw [hg] at so
    simp only [] at so
    by_cases hp : p a = true
    · rw [if_pos hp] at so
      refine ⟨a, hp, cL_mem.mpr ⟨a, lGet_mem hg, rfl⟩, ?_⟩
      have := gs_same (SO_one so) I (sc_cons (aNm_sc (lGet_sc I.2.2.2.1 hg)) I.2.2.2.2.1)
      rw [List.map_cons, aNm_cv I.2.2.1.1] at this
      exact this
    · rw [if_neg hp] at so
      exact SO_no so
theorem isRef0_cv {a : AV} (h : isRef0 a = true) : ∃ q, cv v a = .ref q := by
  rcases a with z | k | n | k | r | k
  · cases h
  · cases h
  · cases h
  · cases h
  · cases r with
    | none => cases h
    | some i => exact ⟨_, rfl⟩
  · exact ⟨_, rfl⟩
theorem g_iload_n (C : kx_ok k) {i : Fin 4} (d : decode (kCc k) (sPc s) = .ok (.iload_n i, 1)) (so : SO k x mn c dT w0 v0 Rs (oLdv s 1 i aIsI)) : GS k x mn c dT w0 v0 s := fun v I => by
  obtain ⟨a, h1, h2, h3⟩ := ldv_ok so I
  rw [cv_int h1] at h2 h3
  exact w_iload_n C d h2 h3
theorem g_iload (C : kx_ok k) {i : Nat} (d : decode (kCc k) (sPc s) = .ok (.iload i, 2)) (so : SO k x mn c dT w0 v0 Rs (oLdv s 2 i aIsI)) : GS k x mn c dT w0 v0 s := fun v I => by
  obtain ⟨a, h1, h2, h3⟩ := ldv_ok so I
  rw [cv_int h1] at h2 h3
  exact w_iload C d h2 h3
theorem g_lload_n (C : kx_ok k) {i : Fin 4} (d : decode (kCc k) (sPc s) = .ok (.lload_n i, 1)) (so : SO k x mn c dT w0 v0 Rs (oLdv s 1 i aIsL)) : GS k x mn c dT w0 v0 s := fun v I => by
  obtain ⟨a, h1, h2, h3⟩ := ldv_ok so I
  rw [cv_long h1] at h2 h3
  exact w_lload_n C d h2 h3
theorem g_lload (C : kx_ok k) {i : Nat} (d : decode (kCc k) (sPc s) = .ok (.lload i, 2)) (so : SO k x mn c dT w0 v0 Rs (oLdv s 2 i aIsL)) : GS k x mn c dT w0 v0 s := fun v I => by
  obtain ⟨a, h1, h2, h3⟩ := ldv_ok so I
  rw [cv_long h1] at h2 h3
  exact w_lload C d h2 h3
theorem g_aload_n (C : kx_ok k) {i : Fin 4} (d : decode (kCc k) (sPc s) = .ok (.aload_n i, 1)) (so : SO k x mn c dT w0 v0 Rs (oLdv s 1 i isRef0)) : GS k x mn c dT w0 v0 s := fun v I => by
  obtain ⟨a, h1, h2, h3⟩ := ldv_ok so I
  obtain ⟨q, hq⟩ := isRef0_cv (v := v) h1
  rw [hq] at h2 h3
  exact w_aload_n C d h2 h3
theorem g_aload (C : kx_ok k) {i : Nat} (d : decode (kCc k) (sPc s) = .ok (.aload i, 2)) (so : SO k x mn c dT w0 v0 Rs (oLdv s 2 i isRef0)) : GS k x mn c dT w0 v0 s := fun v I => by
  obtain ⟨a, h1, h2, h3⟩ := ldv_ok so I
  obtain ⟨q, hq⟩ := isRef0_cv (v := v) h1
  rw [hq] at h2 h3
  exact w_aload C d h2 h3
/-- stores -/
theorem lPrev_s (l : List (Option AV)) (i : Nat) : lPrev l (i + 1) = match l[i]? with
    | some (some a) => if Nat.beq (aCat a) 2 then l.set i none else l
    | _ => l := rfl
theorem lPrev_len (l : List (Option AV)) (i : Nat) : (lPrev l i).length = l.length := by
  cases i with
  | zero => rfl
  | succ i =>
    rw [lPrev_s]
    split
    · split
      · exact List.length_set
      · rfl
    · rfl
theorem lSet_len (l : List (Option AV)) (i : Nat) (a : AV) : (lSet l i a).length = l.length := by
  unfold lSet
  simp only []
  split
  · rw [List.length_set, List.length_set, lPrev_len]
  · rw [List.length_set, lPrev_len]
theorem lPrev_get {l : List (Option AV)} {i j : Nat} {b : AV} (h : (lPrev l i)[j]? = some (some b)) : l[j]? = some (some b) ∧ ¬ (j + 1 = i ∧ aCat b = 2) := by
  cases i with
  | zero => exact ⟨h, fun q => by omega⟩
  | succ i =>
    rw [lPrev_s] at h
    split at h
    · rename_i a ha
      split at h
      · rw [List.getElem?_set] at h
        by_cases e : i = j
        · subst e
          rw [if_pos rfl] at h
          split at h <;> cases h
        · rw [if_neg e] at h
          exact ⟨h, fun q => by omega⟩
      · rename_i hc
        refine ⟨h, fun q => ?_⟩
        have e : j = i := by omega
        subst e
        rw [ha] at h
        cases h
        rw [q.2] at hc
        exact hc rfl
    · rename_i hno
      refine ⟨h, fun q => ?_⟩
      have e : j = i := by omega
      subst e
      exact hno b h
theorem lSet_get {l : List (Option AV)} {i j : Nat} {a b : AV} (h : (lSet l i a)[j]? = some (some b)) : (j = i ∧ b = a) ∨ (j ≠ i ∧ (aCat a = 2 → j ≠ i + 1) ∧ l[j]? = some (some b) ∧ ¬ (j + 1 = i ∧ aCat b = 2)) := by
  unfold lSet at h
  simp only [] at h
  have base : ∀ {b : AV}, ((lPrev l i).set i (some a))[j]? = some (some b) → (j = i ∧ b = a) ∨ (j ≠ i ∧ l[j]? = some (some b) ∧ ¬ (j + 1 = i ∧ aCat b = 2)) := by
    intro b h
    rw [List.getElem?_set] at h
    by_cases e : i = j
    · subst e
      rw [if_pos rfl] at h
      split at h
      · cases h
        exact Or.inl ⟨rfl, rfl⟩
      · cases h
    · rw [if_neg e] at h
      exact Or.inr ⟨Ne.symm e, lPrev_get h⟩
  split at h
  · rw [List.getElem?_set] at h
    by_cases e : i + 1 = j
    · rw [if_pos e] at h
      split at h <;> cases h
    · rw [if_neg e] at h
      rcases base h with q | q
      · exact Or.inl q
      · exact Or.inr ⟨q.1, fun _ => Ne.symm e, q.2⟩
  · rename_i hc
    rcases base h with q | q
    · exact Or.inl q
    · exact Or.inr ⟨q.1, fun h2 => absurd (by rw [h2]; rfl) hc, q.2⟩
theorem lSet_sc {w : AW} {l : List (Option AV)} {i : Nat} {a : AV} (hl : scO w l) (ha : scV w a) : scO w (lSet l i a) := by
  intro b hb
  obtain ⟨j, hj⟩ := List.mem_iff_getElem?.mp hb
  rcases lSet_get hj with q | q
  · rw [q.2]; exact ha
  · exact hl b (List.mem_of_getElem? q.2.2.1)
theorem lSet_but {l : List (Option AV)} {i : Nat} {a : AV} : ∀ q ∈ cL v (lSet l i a), q ∈ (i, cv v a) :: lv_but i (cL v l) := by
  rintro ⟨j, y⟩ hq
  obtain ⟨b, hb, rfl⟩ := cL_mem.mp hq
  rcases lSet_get hb with g | g
  · rw [g.1, g.2]; exact List.mem_cons_self
  · refine List.mem_cons_of_mem _ (List.mem_filter.mpr ⟨cL_mem.mpr ⟨b, g.2.2.1, rfl⟩, ?_⟩)
    simp only [cv_cat, Bool.and_eq_true, Bool.not_eq_true', beq_eq_false_iff_ne, Bool.and_eq_false_iff]
    refine ⟨g.1, ?_⟩
    by_cases e : j + 1 = i
    · exact Or.inr (fun q => g.2.2.2 ⟨e, q⟩)
    · exact Or.inl e
theorem lSet_but2 {l : List (Option AV)} {i : Nat} {a : AV} (ha : aCat a = 2) : ∀ q ∈ cL v (lSet l i a), q ∈ (i, cv v a) :: lv_but2 i (cL v l) := by
  rintro ⟨j, y⟩ hq
  obtain ⟨b, hb, rfl⟩ := cL_mem.mp hq
  rcases lSet_get hb with g | g
  · rw [g.1, g.2]; exact List.mem_cons_self
  · refine List.mem_cons_of_mem _ (List.mem_filter.mpr ⟨cL_mem.mpr ⟨b, g.2.2.1, rfl⟩, ?_⟩)
    simp only [cv_cat, Bool.and_eq_true, Bool.not_eq_true', beq_eq_false_iff_ne, Bool.and_eq_false_iff]
    refine ⟨g.1, g.2.1 ha, ?_⟩
    by_cases e : j + 1 = i
    · exact Or.inr (fun q => g.2.2.2 ⟨e, q⟩)
    · exact Or.inl e
theorem stv_ok {len i : Nat} {p : AV → Bool} (so : SO k x mn c dT w0 v0 Rs (oStv s len i p)) (I : Inv k x mn c dT w0 v0 s v) : ∃ a r, sSt s = a :: r ∧ p a = true ∧ i + (if aCat a = 2 then 1 else 0) < kN k ∧ WS k (sPc s + len) (cL v (lSet (sLv s) i a)) (r.map (cv v)) (cW v dT (xB x) (wH (sW s))) (sC s) (sS s) := by
  obtain ⟨pc, lv, st, w, lp, ce, sl⟩ := s
  cases st with
  | nil => exact SO_no so
  | cons a r =>
    replace so : SO k x mn c dT w0 v0 Rs (if (p a && Nat.blt (i + (if Nat.beq (aCat a) 2 then 1 else 0)) lv.length) = true then some ([(pc + len, lSet lv i a, r, w, lp, ce, sl)], []) else none) := so
    by_cases hc : (p a && Nat.blt (i + (if Nat.beq (aCat a) 2 then 1 else 0)) lv.length) = true
    · rw [if_pos hc] at so
      simp only [Bool.and_eq_true] at hc
      obtain ⟨h1, h2⟩ := hc
      have h2 := Nat.blt_eq.mp h2
      have hn : lv.length = kN k := I.2.2.2.2.2.1
      refine ⟨a, r, rfl, h1, ?_, ?_⟩
      · rw [← hn]
        by_cases e : aCat a = 2
        · rw [if_pos e]
          rw [e] at h2
          exact h2
        · rw [if_neg e]
          exact Nat.lt_of_le_of_lt (Nat.le_add_right _ _) h2
      · exact SO_one (t := (pc + len, lSet lv i a, r, w, lp, ce, sl)) so v (Inv_go (s := (pc, lv, a :: r, w, lp, ce, sl)) I (wle_rf _) (agr_rf _ _) I.2.2.1 (lSet_sc I.2.2.2.1 (sc_hd I.2.2.2.2.1)) (sc_tl I.2.2.2.2.1) ((lSet_len _ _ _).trans hn) (fun _ h => h))
    · rw [if_neg hc] at so
      exact SO_no so
theorem catI {a : AV} (h : aIsI a = true) : aCat a = 1 := by
  rcases a with z | k | n | k | r | k
  · rfl
  · rfl
  all_goals cases h
theorem catL {a : AV} (h : aIsL a = true) : aCat a = 2 := by
  rcases a with z | k | n | k | r | k
  · cases h
  · cases h
  · rfl
  · rfl
  · cases h
  · cases h
theorem catR {a : AV} (h : isRef0 a = true) : aCat a = 1 := by
  rcases a with z | k | n | k | r | k
  · rfl
  · rfl
  · cases h
  · cases h
  · rfl
  · rfl
theorem g_istore_n (C : kx_ok k) {i : Fin 4} (d : decode (kCc k) (sPc s) = .ok (.istore_n i, 1)) (so : SO k x mn c dT w0 v0 Rs (oStv s 1 i aIsI)) : GS k x mn c dT w0 v0 s := fun v I => by
  obtain ⟨a, r, h1, h2, h3, h4⟩ := stv_ok so I
  rw [h1, List.map_cons, cv_int h2]
  rw [catI h2] at h3
  exact w_istore_n C d h3 (by rw [← cv_int h2]; exact lSet_but) h4
theorem g_istore (C : kx_ok k) {i : Nat} (d : decode (kCc k) (sPc s) = .ok (.istore i, 2)) (so : SO k x mn c dT w0 v0 Rs (oStv s 2 i aIsI)) : GS k x mn c dT w0 v0 s := fun v I => by
  obtain ⟨a, r, h1, h2, h3, h4⟩ := stv_ok so I
  rw [h1, List.map_cons, cv_int h2]
  rw [catI h2] at h3
  exact w_istore C d h3 (by rw [← cv_int h2]; exact lSet_but) h4
theorem g_lstore_n (C : kx_ok k) {i : Fin 4} (d : decode (kCc k) (sPc s) = .ok (.lstore_n i, 1)) (so : SO k x mn c dT w0 v0 Rs (oStv s 1 i aIsL)) : GS k x mn c dT w0 v0 s := fun v I => by
  obtain ⟨a, r, h1, h2, h3, h4⟩ := stv_ok so I
  rw [h1, List.map_cons, cv_long h2]
  rw [catL h2] at h3
  exact w_lstore_n C d h3 (by rw [← cv_long h2]; exact lSet_but2 (catL h2)) h4
theorem g_lstore (C : kx_ok k) {i : Nat} (d : decode (kCc k) (sPc s) = .ok (.lstore i, 2)) (so : SO k x mn c dT w0 v0 Rs (oStv s 2 i aIsL)) : GS k x mn c dT w0 v0 s := fun v I => by
  obtain ⟨a, r, h1, h2, h3, h4⟩ := stv_ok so I
  rw [h1, List.map_cons, cv_long h2]
  rw [catL h2] at h3
  exact w_lstore C d h3 (by rw [← cv_long h2]; exact lSet_but2 (catL h2)) h4
theorem g_astore_n (C : kx_ok k) {i : Fin 4} (d : decode (kCc k) (sPc s) = .ok (.astore_n i, 1)) (so : SO k x mn c dT w0 v0 Rs (oStv s 1 i isRef0)) : GS k x mn c dT w0 v0 s := fun v I => by
  obtain ⟨a, r, h1, h2, h3, h4⟩ := stv_ok so I
  obtain ⟨q, hq⟩ := isRef0_cv (v := v) h2
  rw [h1, List.map_cons, hq]
  rw [catR h2] at h3
  exact w_astore_n C d h3 (by rw [← hq]; exact lSet_but) h4
theorem g_astore (C : kx_ok k) {i : Nat} (d : decode (kCc k) (sPc s) = .ok (.astore i, 2)) (so : SO k x mn c dT w0 v0 Rs (oStv s 2 i isRef0)) : GS k x mn c dT w0 v0 s := fun v I => by
  obtain ⟨a, r, h1, h2, h3, h4⟩ := stv_ok so I
  obtain ⟨q, hq⟩ := isRef0_cv (v := v) h2
  rw [h1, List.map_cons, hq]
  rw [catR h2] at h3
  exact w_astore C d h3 (by rw [← hq]; exact lSet_but) h4
end ST
