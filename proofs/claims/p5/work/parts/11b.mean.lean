/-! What the interpreter's worlds mean -/
/-- what symbols stand for: ints, longs, addresses of cells, addresses outside, contents of int arrays, of long arrays -/
abbrev VL : Type := (Nat → Int32) × (Nat → Int64) × (Nat → Nat) × (Nat → Nat) × (Nat → Nat → Int32) × (Nat → Nat → Int64)
abbrev vI (v : VL) : Nat → Int32 := v.1
abbrev vJ (v : VL) : Nat → Int64 := v.2.1
abbrev vA (v : VL) : Nat → Nat := v.2.2.1
abbrev vO (v : VL) : Nat → Nat := v.2.2.2.1
abbrev vC (v : VL) : Nat → Nat → Int32 := v.2.2.2.2.1
abbrev vD (v : VL) : Nat → Nat → Int64 := v.2.2.2.2.2
def cZ (v : VL) : AV → Int32
  | .inl z => Int32.ofInt z
  | .inr (.inl k) => vI v k
  | _ => 0
def cQ (v : VL) : AV → Int64
  | .inr (.inr (.inl n)) => lN n
  | .inr (.inr (.inr (.inl k))) => vJ v k
  | _ => 0
def cR (v : VL) : AV → Option Nat
  | .inr (.inr (.inr (.inr (.inl r)))) => r.map (vA v)
  | .inr (.inr (.inr (.inr (.inr k)))) => some (vO v k)
  | _ => none
def cv (v : VL) : AV → Value
  | .inl z => .int (Int32.ofInt z)
  | .inr (.inl k) => .int (vI v k)
  | .inr (.inr (.inl n)) => .long (lN n)
  | .inr (.inr (.inr (.inl k))) => .long (vJ v k)
  | .inr (.inr (.inr (.inr (.inl r)))) => va_rf (r.map (vA v))
  | .inr (.inr (.inr (.inr (.inr k)))) => .ref (vO v k)
/-- contents of an array -/
def cBz (v : VL) (b : AB) (j : Nat) : Int32 := match b with | .inl l => cZ v (l.getD j (aI 0)) | .inr e => vC v e.2.2 j
def cBq (v : VL) (b : AB) (j : Nat) : Int64 := match b with | .inl l => cQ v (l.getD j (aJ 0)) | .inr e => vD v e.2.2 j
def cBr (v : VL) (b : AB) (j : Nat) : Option Nat := match b with | .inl l => cR v (l.getD j (aR none)) | .inr _ => none
def cB (v : VL) (t n : Nat) (b : AB) : (Nat → Int32) ⊕ (Nat → Int64) ⊕ (Nat → UInt32) ⊕ (Nat → UInt64) ⊕ (Nat → Option Nat) :=
  match t with
  | 0 => .inl (fun j => if j < n then cBz v b j else 0)
  | 2 => .inl (fun j => if j < n then cBz v b j else 0)
  | 1 => .inr (.inl (fun j => if j < n then cBq v b j else 0))
  | _ => .inr (.inr (.inr (.inr (fun j => if j < n then cBr v b j else none))))
def cC (v : VL) (dT : Nat → ClassId) : AC → va_E
  | .inl (t, n, b) => .inl (dT t, n, cB v t n b)
  | .inr (ci, fs) => .inr (ci, fs.map (cv v))
def cW (v : VL) (dT : Nat → ClassId) (B : Nat → AC) (h : AH) : va_W := (List.range h.1).map (fun i => (vA v i, cC v dT (hGet B h i)))
def cL (v : VL) (l : List (Option AV)) : List (Nat × Value) := l.zipIdx.filterMap (fun q => q.1.map (fun a => (q.2, cv v a)))
/-- bounds hold -/
def okE (v : VL) (E : AE) : Prop := ∀ (k : Nat) (b : Int × Int × Nat × Int), E[k]? = some b → b.1 ≤ (vI v k).toInt ∧ (vI v k).toInt ≤ b.2.1 ∧ (vI v k).toInt = (vI v b.2.2.1).toInt + b.2.2.2
def okC (v : VL) : AC → Prop
  | .inl (t, n, .inr e) => t ≠ 1 → ∀ j, j < n → e.1 ≤ (vC v e.2.2 j).toInt ∧ (vC v e.2.2 j).toInt ≤ e.2.1
  | _ => True
/-- every symbol is one of the world's -/
def scV (w : AW) : AV → Prop
  | .inr (.inl k) => k < (wE w).length
  | .inr (.inr (.inr (.inl k))) => k < wL w
  | .inr (.inr (.inr (.inr (.inl (some i))))) => i < (wH w).1
  | .inr (.inr (.inr (.inr (.inr k)))) => k < wX w
  | _ => True
def scC (w : AW) : AC → Prop
  | .inl (_, _, .inl l) => ∀ a ∈ l, scV w a
  | .inl (_, _, .inr e) => e.2.2 < wA w
  | .inr (_, fs) => ∀ a ∈ fs, scV w a
def scL (w : AW) (l : List AV) : Prop := ∀ a ∈ l, scV w a
def scO (w : AW) (l : List (Option AV)) : Prop := ∀ a, some a ∈ l → scV w a
/-- a world and what it stands for -/
def okW (B : Nat → AC) (v : VL) (w : AW) : Prop :=
  okE v (wE w) ∧ (∀ i, i < (wH w).1 → okC v (hGet B (wH w) i)) ∧ (∀ i, i < (wH w).1 → scC w (hGet B (wH w) i)) ∧ (∀ (k : Nat) (b : Int × Int × Nat × Int), (wE w)[k]? = some b → b.2.2.1 ≤ k)
def wle (a b : AW) : Prop := (wE a).length ≤ (wE b).length ∧ (wH a).1 ≤ (wH b).1 ∧ wL a ≤ wL b ∧ wA a ≤ wA b ∧ wX a ≤ wX b
def agr (w : AW) (v u : VL) : Prop :=
  (∀ k, k < (wE w).length → vI v k = vI u k) ∧ (∀ i, i < (wH w).1 → vA v i = vA u i) ∧ (∀ k, k < wL w → vJ v k = vJ u k) ∧ (∀ k, k < wA w → vC v k = vC u k ∧ vD v k = vD u k) ∧ (∀ k, k < wX w → vO v k = vO u k)
theorem wle_rf (w : AW) : wle w w := ⟨Nat.le_refl _, Nat.le_refl _, Nat.le_refl _, Nat.le_refl _, Nat.le_refl _⟩
theorem wle_tr {a b c : AW} (h : wle a b) (g : wle b c) : wle a c := ⟨Nat.le_trans h.1 g.1, Nat.le_trans h.2.1 g.2.1, Nat.le_trans h.2.2.1 g.2.2.1, Nat.le_trans h.2.2.2.1 g.2.2.2.1, Nat.le_trans h.2.2.2.2 g.2.2.2.2⟩
theorem agr_rf (w : AW) (v : VL) : agr w v v := ⟨fun _ _ => rfl, fun _ _ => rfl, fun _ _ => rfl, fun _ _ => ⟨rfl, rfl⟩, fun _ _ => rfl⟩
theorem agr_tr {w : AW} {v u t : VL} (h : agr w v u) (g : agr w u t) : agr w v t :=
  ⟨fun k hk => (h.1 k hk).trans (g.1 k hk), fun k hk => (h.2.1 k hk).trans (g.2.1 k hk), fun k hk => (h.2.2.1 k hk).trans (g.2.2.1 k hk), fun k hk => ⟨(h.2.2.2.1 k hk).1.trans (g.2.2.2.1 k hk).1, (h.2.2.2.1 k hk).2.trans (g.2.2.2.1 k hk).2⟩, fun k hk => (h.2.2.2.2 k hk).trans (g.2.2.2.2 k hk)⟩
theorem agr_mono {a b : AW} {v u : VL} (h : agr b v u) (g : wle a b) : agr a v u :=
  ⟨fun k hk => h.1 k (Nat.lt_of_lt_of_le hk g.1), fun k hk => h.2.1 k (Nat.lt_of_lt_of_le hk g.2.1), fun k hk => h.2.2.1 k (Nat.lt_of_lt_of_le hk g.2.2.1), fun k hk => h.2.2.2.1 k (Nat.lt_of_lt_of_le hk g.2.2.2.1), fun k hk => h.2.2.2.2 k (Nat.lt_of_lt_of_le hk g.2.2.2.2)⟩
theorem agr_sy {w : AW} {v u : VL} (h : agr w v u) : agr w u v :=
  ⟨fun k hk => (h.1 k hk).symm, fun k hk => (h.2.1 k hk).symm, fun k hk => (h.2.2.1 k hk).symm, fun k hk => ⟨(h.2.2.2.1 k hk).1.symm, (h.2.2.2.1 k hk).2.symm⟩, fun k hk => (h.2.2.2.2 k hk).symm⟩
theorem scV_mono {a b : AW} (g : wle a b) {x : AV} (h : scV a x) : scV b x := by
  rcases x with z | k | n | k | r | k
  · trivial
  · exact Nat.lt_of_lt_of_le h g.1
  · trivial
  · exact Nat.lt_of_lt_of_le h g.2.2.1
  · cases r with
    | none => trivial
    | some i => exact Nat.lt_of_lt_of_le h g.2.1
  · exact Nat.lt_of_lt_of_le h g.2.2.2.2
theorem scC_mono {a b : AW} (g : wle a b) {x : AC} (h : scC a x) : scC b x := by
  rcases x with ⟨t, n, l | e⟩ | ⟨ci, fs⟩
  · exact fun y hy => scV_mono g (h y hy)
  · exact Nat.lt_of_lt_of_le h g.2.2.2.1
  · exact fun y hy => scV_mono g (h y hy)
theorem scL_mono {a b : AW} (g : wle a b) {l : List AV} (h : scL a l) : scL b l := fun y hy => scV_mono g (h y hy)
theorem scO_mono {a b : AW} (g : wle a b) {l : List (Option AV)} (h : scO a l) : scO b l := fun y hy => scV_mono g (h y hy)
/-- what a scoped thing stands for depends on the world's symbols alone -/
theorem cv_agr {w : AW} {v u : VL} (h : agr w v u) {a : AV} (hs : scV w a) : cv v a = cv u a := by
  rcases a with z | k | n | k | r | k
  · rfl
  · show Value.int _ = _; rw [h.1 k hs]; rfl
  · rfl
  · show Value.long _ = _; rw [h.2.2.1 k hs]; rfl
  · cases r with
    | none => rfl
    | some i => show Value.ref _ = _; rw [h.2.1 i hs]; rfl
  · show Value.ref _ = _; rw [h.2.2.2.2 k hs]; rfl
theorem cZ_agr {w : AW} {v u : VL} (h : agr w v u) {a : AV} (hs : scV w a) : cZ v a = cZ u a := by
  rcases a with z | k | n | k | r | k
  · rfl
  · exact h.1 k hs
  all_goals rfl
theorem cQ_agr {w : AW} {v u : VL} (h : agr w v u) {a : AV} (hs : scV w a) : cQ v a = cQ u a := by
  rcases a with z | k | n | k | r | k
  · rfl
  · rfl
  · rfl
  · exact h.2.2.1 k hs
  · rfl
  · rfl
theorem cR_agr {w : AW} {v u : VL} (h : agr w v u) {a : AV} (hs : scV w a) : cR v a = cR u a := by
  rcases a with z | k | n | k | r | k
  · rfl
  · rfl
  · rfl
  · rfl
  · cases r with
    | none => rfl
    | some i => show some _ = _; rw [h.2.1 i hs]; rfl
  · show some _ = _; rw [h.2.2.2.2 k hs]; rfl
theorem getD_mem {α : Type} {l : List α} {j : Nat} {d : α} : l.getD j d = d ∨ l.getD j d ∈ l := by
  rw [List.getD_eq_getElem?_getD]
  cases h : l[j]? with
  | none => exact Or.inl rfl
  | some a => exact Or.inr (List.mem_of_getElem? h)
theorem cBz_agr {w : AW} {v u : VL} (h : agr w v u) {b : AB} (hs : match b with | .inl l => ∀ a ∈ l, scV w a | .inr e => e.2.2 < wA w) (j : Nat) : cBz v b j = cBz u b j := by
  rcases b with l | e
  · show cZ v (l.getD j (aI 0)) = cZ u (l.getD j (aI 0))
    rcases getD_mem (l := l) (j := j) (d := aI 0) with q | q
    · rw [q]; rfl
    · exact cZ_agr h (hs _ q)
  · exact congrFun (h.2.2.2.1 _ hs).1 j
theorem cBq_agr {w : AW} {v u : VL} (h : agr w v u) {b : AB} (hs : match b with | .inl l => ∀ a ∈ l, scV w a | .inr e => e.2.2 < wA w) (j : Nat) : cBq v b j = cBq u b j := by
  rcases b with l | e
  · show cQ v (l.getD j (aJ 0)) = cQ u (l.getD j (aJ 0))
    rcases getD_mem (l := l) (j := j) (d := aJ 0) with q | q
    · rw [q]; rfl
    · exact cQ_agr h (hs _ q)
  · exact congrFun (h.2.2.2.1 _ hs).2 j
theorem cBr_agr {w : AW} {v u : VL} (h : agr w v u) {b : AB} (hs : match b with | .inl l => ∀ a ∈ l, scV w a | .inr e => e.2.2 < wA w) (j : Nat) : cBr v b j = cBr u b j := by
  rcases b with l | e
  · show cR v (l.getD j (aR none)) = cR u (l.getD j (aR none))
    rcases getD_mem (l := l) (j := j) (d := aR none) with q | q
    · rw [q]; rfl
    · exact cR_agr h (hs _ q)
  · rfl
/-- contents agree where they matter -/
theorem cB_ext {v u : VL} {t n : Nat} {b c : AB} (h0 : t = 0 ∨ t = 2 → ∀ j, j < n → cBz v b j = cBz u c j) (h1 : t = 1 → ∀ j, j < n → cBq v b j = cBq u c j) (h2 : 3 ≤ t → ∀ j, j < n → cBr v b j = cBr u c j) : cB v t n b = cB u t n c := by
  match t with
  | 0 =>
    refine congrArg Sum.inl (funext fun j => ?_)
    by_cases hj : j < n
    · rw [if_pos hj, if_pos hj]; exact h0 (Or.inl rfl) j hj
    · rw [if_neg hj, if_neg hj]
  | 1 =>
    refine congrArg (fun f => Sum.inr (Sum.inl f)) (funext fun j => ?_)
    by_cases hj : j < n
    · rw [if_pos hj, if_pos hj]; exact h1 rfl j hj
    · rw [if_neg hj, if_neg hj]
  | 2 =>
    refine congrArg Sum.inl (funext fun j => ?_)
    by_cases hj : j < n
    · rw [if_pos hj, if_pos hj]; exact h0 (Or.inr rfl) j hj
    · rw [if_neg hj, if_neg hj]
  | t + 3 =>
    refine congrArg (fun f => Sum.inr (Sum.inr (Sum.inr (Sum.inr f)))) (funext fun j => ?_)
    by_cases hj : j < n
    · rw [if_pos hj, if_pos hj]; exact h2 (Nat.le_add_left _ _) j hj
    · rw [if_neg hj, if_neg hj]
theorem cB_agr {w : AW} {v u : VL} (h : agr w v u) (t n : Nat) {b : AB} (hs : match b with | .inl l => ∀ a ∈ l, scV w a | .inr e => e.2.2 < wA w) : cB v t n b = cB u t n b :=
  cB_ext (fun _ j _ => cBz_agr h hs j) (fun _ j _ => cBq_agr h hs j) (fun _ j _ => cBr_agr h hs j)
theorem cC_agr {w : AW} {v u : VL} (h : agr w v u) {dT : Nat → ClassId} {c : AC} (hs : scC w c) : cC v dT c = cC u dT c := by
  rcases c with ⟨t, n, b⟩ | ⟨ci, fs⟩
  · show Sum.inl (dT t, n, cB v t n b) = _
    rw [cB_agr h t n (b := b) (by rcases b with l | e <;> exact hs)]
    rfl
  · show Sum.inr (ci, fs.map (cv v)) = _
    rw [List.map_congr_left (fun a ha => cv_agr h (hs a ha))]
    rfl
theorem cW_agr {w : AW} {v u : VL} (h : agr w v u) {dT : Nat → ClassId} {B : Nat → AC} (hs : ∀ i, i < (wH w).1 → scC w (hGet B (wH w) i)) : cW v dT B (wH w) = cW u dT B (wH w) := by
  unfold cW
  apply List.map_congr_left
  intro i hi
  have hi := List.mem_range.mp hi
  rw [h.2.1 i hi, cC_agr h (hs i hi)]
theorem cS_agr {w : AW} {v u : VL} (h : agr w v u) {l : List AV} (hs : scL w l) : l.map (cv v) = l.map (cv u) := List.map_congr_left (fun a ha => cv_agr h (hs a ha))
theorem fmap_congr {α β : Type} {f g : α → Option β} : ∀ {l : List α}, (∀ q ∈ l, f q = g q) → l.filterMap f = l.filterMap g
  | [], _ => rfl
  | a :: r, h => by
    rw [List.filterMap_cons, List.filterMap_cons, h a List.mem_cons_self, fmap_congr (l := r) (fun q hq => h q (List.mem_cons_of_mem _ hq))]
theorem nb_ne {i j : Nat} (h : i ≠ j) : Nat.beq i j = false := by
  cases hb : Nat.beq i j with
  | false => rfl
  | true => exact absurd (Nat.eq_of_beq_eq_true hb) h
theorem cL_agr {w : AW} {v u : VL} (h : agr w v u) {l : List (Option AV)} (hs : scO w l) : cL v l = cL u l := by
  unfold cL
  apply fmap_congr
  intro q hq
  cases hq1 : q.1 with
  | none => rfl
  | some a =>
    have : some a ∈ l := by
      rw [← hq1]
      exact List.fst_mem_of_mem_zipIdx hq
    show some (q.2, cv v a) = some (q.2, cv u a)
    rw [cv_agr h (hs a this)]
theorem okC_agr {w : AW} {v u : VL} (h : agr w v u) {c : AC} (hs : scC w c) (hc : okC v c) : okC u c := by
  rcases c with ⟨t, n, l | e⟩ | ⟨ci, fs⟩
  · trivial
  · intro ht j hj
    have := hc ht j hj
    rw [(h.2.2.2.1 _ hs).1] at this
    exact this
  · trivial
/-- the world's list, place by place -/
theorem cW_get {v : VL} {dT : Nat → ClassId} {B : Nat → AC} {h : AH} {i : Nat} (hi : i < h.1) : (cW v dT B h)[i]? = some (vA v i, cC v dT (hGet B h i)) := by
  unfold cW
  rw [List.getElem?_map, List.getElem?_range hi]
  rfl
theorem hFind_set (l : List (Nat × AC)) (i : Nat) (c : AC) (j : Nat) : hFind ((i, c) :: hDrop l i) j = if j = i then some c else hFind l j := by
  by_cases e : j = i
  · subst e
    simp [hFind]
  · rw [if_neg e]
    have e1 : Nat.beq i j = false := nb_ne (Ne.symm e)
    show (if Nat.beq i j = true then _ else hFind (hDrop l i) j) = _
    rw [e1]
    simp only [Bool.false_eq_true, if_false]
    induction l with
    | nil => rfl
    | cons q r ih =>
      obtain ⟨k, d⟩ := q
      unfold hDrop
      by_cases hk : Nat.beq k i = true
      · rw [if_pos hk]
        have hki := Nat.eq_of_beq_eq_true hk
        subst hki
        show _ = if Nat.beq k j = true then _ else hFind r j
        rw [e1]
        rfl
      · rw [if_neg hk]
        show (if Nat.beq k j = true then some d else hFind (hDrop r i) j) = if Nat.beq k j = true then some d else hFind r j
        rw [ih]
theorem hGet_set (B : Nat → AC) (h : AH) (i : Nat) (c : AC) (j : Nat) : hGet B (hSet h i c) j = if j = i then c else hGet B h j := by
  unfold hGet hSet
  simp only [hFind_set]
  by_cases e : j = i
  · rw [if_pos e, if_pos e]
  · rw [if_neg e, if_neg e]
theorem cW_set {v : VL} {dT : Nat → ClassId} {B : Nat → AC} {h : AH} {i : Nat} {c : AC} (hi : i < h.1) : cW v dT B (hSet h i c) = (cW v dT B h).set i (vA v i, cC v dT c) := by
  apply List.ext_getElem?
  intro j
  by_cases hj : j < h.1
  · rw [cW_get (h := hSet h i c) hj, hGet_set, List.getElem?_set]
    by_cases e : i = j
    · subst e
      rw [if_pos rfl, if_pos rfl, if_pos (by unfold cW; simpa using hi)]
    · rw [if_neg (Ne.symm e), if_neg e, cW_get hj]
  · have l1 : (cW v dT B (hSet h i c)).length ≤ j := by unfold cW hSet; simp; omega
    have l2 : ((cW v dT B h).set i (vA v i, cC v dT c)).length ≤ j := by unfold cW; simp; omega
    rw [List.getElem?_eq_none l1, List.getElem?_eq_none l2]
theorem hGet_add (B : Nat → AC) (h : AH) (c : AC) (j : Nat) : hGet B (hAdd h c) j = if j = h.1 then c else hGet B h j := by
  unfold hGet hAdd
  show (match (if Nat.beq h.1 j = true then some c else hFind h.2 j) with | some c => c | none => B j) = _
  by_cases e : j = h.1
  · rw [if_pos e, e]
    simp
  · have e1 : Nat.beq h.1 j = false := nb_ne (Ne.symm e)
    rw [e1, if_neg e]
    rfl
theorem cW_add {v u : VL} {dT : Nat → ClassId} {B : Nat → AC} {h : AH} {c : AC} (hu : ∀ i, i < h.1 → vA u i = vA v i ∧ cC u dT (hGet B h i) = cC v dT (hGet B h i)) : cW u dT B (hAdd h c) = cW v dT B h ++ [(vA u h.1, cC u dT c)] := by
  unfold cW
  show (List.range (h.1 + 1)).map _ = _
  rw [List.range_succ, List.map_append]
  congr 1
  · apply List.map_congr_left
    intro i hi
    have hi := List.mem_range.mp hi
    rw [hGet_add, if_neg (by omega), (hu i hi).1, (hu i hi).2]
  · show [(vA u h.1, cC u dT (hGet B (hAdd h c) h.1))] = _
    rw [hGet_add, if_pos rfl]
/-- locals, place by place -/
theorem cL_mem {v : VL} {l : List (Option AV)} {i : Nat} {x : Value} : (i, x) ∈ cL v l ↔ ∃ a, l[i]? = some (some a) ∧ x = cv v a := by
  unfold cL
  rw [List.mem_filterMap]
  constructor
  · rintro ⟨⟨o, j⟩, hm, hq⟩
    cases o with
    | none => cases hq
    | some a =>
      cases hq
      exact ⟨a, (List.mk_mem_zipIdx_iff_getElem?.mp hm), rfl⟩
  · rintro ⟨a, ha, rfl⟩
    exact ⟨(some a, i), List.mk_mem_zipIdx_iff_getElem?.mpr ha, rfl⟩
theorem cv_cat (v : VL) (a : AV) : (cv v a).category = aCat a := by
  rcases a with z | k | n | k | r | k
  · rfl
  · rfl
  · rfl
  · rfl
  · cases r <;> rfl
  · rfl
theorem cv_int {v : VL} {a : AV} (h : aIsI a = true) : cv v a = .int (cZ v a) := by
  rcases a with z | k | n | k | r | k
  · rfl
  · rfl
  all_goals cases h
theorem cv_long {v : VL} {a : AV} (h : aIsL a = true) : cv v a = .long (cQ v a) := by
  rcases a with z | k | n | k | r | k
  · cases h
  · cases h
  · rfl
  · rfl
  · cases h
  · cases h
theorem cv_ref {v : VL} {a : AV} (h : aIsR a = true) : cv v a = va_rf (cR v a) := by
  rcases a with z | k | n | k | r | k
  · cases h
  · cases h
  · cases h
  · cases h
  · rfl
  · rfl
/-- bounds -/
theorem aBd_c (E : AE) (z : Int) : aBd E (.inl z) = if inI z = true then some (z, z) else none := rfl
theorem aBd_s (E : AE) (k : Nat) : aBd E (.inr (.inl k)) = match E[k]? with | some b => some (b.1, b.2.1) | none => none := rfl
theorem aNm_s (E : AE) (k : Nat) : aNm E (.inr (.inl k)) = match E[k]? with | some b => if b.1 = b.2.1 then .inl b.1 else .inr (.inl k) | none => .inr (.inl k) := rfl
theorem aBd_ok {v : VL} {E : AE} (h : okE v E) {a : AV} {b : Int × Int} (hb : aBd E a = some b) : b.1 ≤ (cZ v a).toInt ∧ (cZ v a).toInt ≤ b.2 := by
  rcases a with z | k | n | k | r | k
  · rw [aBd_c] at hb
    by_cases hz : inI z = true
    · rw [if_pos hz] at hb
      cases hb
      show z ≤ (Int32.ofInt z).toInt ∧ (Int32.ofInt z).toInt ≤ z
      rw [z_in hz]
      omega
    · rw [if_neg hz] at hb
      cases hb
  · rw [aBd_s] at hb
    cases he : E[k]? with
    | none => rw [he] at hb; cases hb
    | some e =>
      rw [he] at hb
      cases hb
      exact ⟨(h k e he).1, (h k e he).2.1⟩
  · cases hb
  · cases hb
  · cases hb
  · cases hb
theorem aBd_int {E : AE} {a : AV} {b : Int × Int} (hb : aBd E a = some b) : aIsI a = true := by
  rcases a with z | k | n | k | r | k
  · rfl
  · rfl
  · cases hb
  · cases hb
  · cases hb
  · cases hb
/-- a symbol stays, or is the one value that it can have -/
theorem aNm_cases {v : VL} {E : AE} (h : okE v E) (k : Nat) : aNm E (.inr (.inl k)) = .inr (.inl k) ∨ ∃ z, aNm E (.inr (.inl k)) = .inl z ∧ Int32.ofInt z = vI v k := by
  rw [aNm_s]
  cases he : E[k]? with
  | none => exact Or.inl rfl
  | some e =>
    by_cases hq : e.1 = e.2.1
    · right
      refine ⟨e.1, if_pos hq, ?_⟩
      have := h k e he
      have hr := z_toInt (vI v k)
      apply Int32.toInt_inj.1
      rw [Int32.toInt_ofInt_of_le (by omega) (by omega)]
      omega
    · exact Or.inl (if_neg hq)
theorem aNm_cv {v : VL} {E : AE} (h : okE v E) (a : AV) : cv v (aNm E a) = cv v a := by
  rcases a with z | k | n | k | r | k
  · rfl
  · rcases aNm_cases h k with e | ⟨z, e, hz⟩
    · rw [e]
    · rw [e]
      show Value.int _ = Value.int _
      rw [hz]
  · rfl
  · rfl
  · rfl
  · rfl
theorem aNm_cZ {v : VL} {E : AE} (h : okE v E) (a : AV) : cZ v (aNm E a) = cZ v a := by
  rcases a with z | k | n | k | r | k
  · rfl
  · rcases aNm_cases h k with e | ⟨z, e, hz⟩
    · rw [e]
    · rw [e]
      exact hz
  · rfl
  · rfl
  · rfl
  · rfl
theorem aNm_or (E : AE) (a : AV) : aNm E a = a ∨ ∃ z k, aNm E a = .inl z ∧ a = .inr (.inl k) := by
  rcases a with z | k | n | k | r | k
  · exact Or.inl rfl
  · rw [aNm_s]
    cases he : E[k]? with
    | none => exact Or.inl rfl
    | some e =>
      by_cases hq : e.1 = e.2.1
      · exact Or.inr ⟨e.1, k, if_pos hq, rfl⟩
      · exact Or.inl (if_neg hq)
  · exact Or.inl rfl
  · exact Or.inl rfl
  · exact Or.inl rfl
  · exact Or.inl rfl
theorem aNm_sc {w : AW} {E : AE} {a : AV} (h : scV w a) : scV w (aNm E a) := by
  rcases aNm_or E a with e | ⟨z, k, e, -⟩
  · rw [e]; exact h
  · rw [e]; trivial
theorem aNm_isI (E : AE) (a : AV) : aIsI (aNm E a) = aIsI a := by
  rcases aNm_or E a with e | ⟨z, k, e, e2⟩
  · rw [e]
  · rw [e, e2]
    rfl
