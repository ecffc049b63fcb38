/-! Fresh symbols, ints, longs, narrower bounds -/
theorem okW_sc {B : Nat → AC} {v : VL} {w : AW} (h : okW B v w) : ∀ i, i < (wH w).1 → scC w (hGet B (wH w) i) := h.2.2.1
/-- from a world to one with the same cells, more symbols -/
theorem okW_ext {B : Nat → AC} {v v' : VL} {w w' : AW} (h : okW B v w) (ha : agr w v v') (hl : wle w w') (hH : wH w' = wH w) (hE : okE v' (wE w')) (hb : ∀ (k : Nat) (b : Int × Int × Nat × Int), (wE w')[k]? = some b → b.2.2.1 ≤ k) : okW B v' w' := by
  refine ⟨hE, fun i hi => ?_, fun i hi => ?_, hb⟩
  · rw [hH] at hi ⊢
    exact okC_agr ha (h.2.2.1 i hi) (h.2.1 i hi)
  · rw [hH] at hi ⊢
    exact scC_mono hl (h.2.2.1 i hi)
/-- a value in a world that has grown: what it stands for -/
def Fr (B : Nat → AC) (w : AW) (val : VL → Value) (r : AW × AV) : Prop :=
  wle w r.1 ∧ wH r.1 = wH w ∧ ∀ v, okW B v w → ∃ v', agr w v v' ∧ okW B v' r.1 ∧ scV r.1 r.2 ∧ cv v' r.2 = val v
section
variable {B : Nat → AC} {w : AW} {val : VL → Value}
theorem Fr_same {a : AV} (hs : scV w a) (h : ∀ v, okW B v w → cv v a = val v) : Fr B w val (w, a) := ⟨wle_rf w, rfl, fun v hv => ⟨v, agr_rf w v, hv, hs, h v hv⟩⟩
theorem wle_newI (lo hi : Int) (bo : Option (Nat × Int)) : wle w (wNewI w lo hi bo).1 := ⟨by show (wE w).length ≤ ((wE w) ++ [_]).length; simp, Nat.le_refl _, Nat.le_refl _, Nat.le_refl _, Nat.le_refl _⟩
/-- the valuation with x for the int symbol n -/
def vIu (v : VL) (n : Nat) (x : Int32) : VL := (fun k => if k = n then x else vI v k, v.2)
def vJu (v : VL) (n : Nat) (x : Int64) : VL := (v.1, fun k => if k = n then x else vJ v k, v.2.2)
theorem agr_vIu (v : VL) (x : Int32) : agr w v (vIu v (wE w).length x) :=
  ⟨fun k hk => by show vI v k = if k = _ then x else vI v k; rw [if_neg (by omega)], fun _ _ => rfl, fun _ _ => rfl, fun _ _ => ⟨rfl, rfl⟩, fun _ _ => rfl⟩
theorem agr_vJu (v : VL) (x : Int64) : agr w v (vJu v (wL w) x) :=
  ⟨fun _ _ => rfl, fun _ _ => rfl, fun k hk => by show vJ v k = if k = _ then x else vJ v k; rw [if_neg (by omega)], fun _ _ => ⟨rfl, rfl⟩, fun _ _ => rfl⟩
theorem newI_ok {v : VL} (h : okW B v w) {lo hi : Int} {x : Int32} (bo : Option (Nat × Int)) (h1 : lo ≤ x.toInt) (h2 : x.toInt ≤ hi) (h3 : ∀ b o, bo = some (b, o) → b < (wE w).length ∧ x.toInt = (vI v b).toInt + o) :
    okW B (vIu v (wE w).length x) (wNewI w lo hi bo).1 := by
  refine okW_ext h (agr_vIu v x) (wle_newI lo hi bo) rfl (fun k b hb => ?_) (fun k b hb => ?_)
  · have hb : ((wE w) ++ [match bo with | some (b, o) => (lo, hi, b, o) | none => (lo, hi, (wE w).length, 0)])[k]? = some b := hb
    by_cases hk : k < (wE w).length
    · rw [List.getElem?_append_left hk] at hb
      have q := h.1 k b hb
      have q2 := Nat.lt_of_le_of_lt (h.2.2.2 k b hb) hk
      show b.1 ≤ (if k = _ then x else vI v k).toInt ∧ (if k = _ then x else vI v k).toInt ≤ _ ∧ (if k = _ then x else vI v k).toInt = (if b.2.2.1 = _ then x else vI v b.2.2.1).toInt + _
      rw [if_neg (by omega), if_neg (by omega)]
      exact q
    · rw [List.getElem?_append_right (by omega)] at hb
      have hk0 : k - (wE w).length < 1 := (List.getElem?_eq_some_iff.mp hb).1
      have hk1 : k = (wE w).length := by omega
      subst hk1
      rw [Nat.sub_self] at hb
      show b.1 ≤ (if _ = _ then x else _).toInt ∧ (if _ = _ then x else _).toInt ≤ _ ∧ (if _ = _ then x else _).toInt = (if b.2.2.1 = _ then x else vI v b.2.2.1).toInt + _
      rw [if_pos rfl]
      cases bo with
      | none =>
        cases hb
        simp only [if_true]
        exact ⟨h1, h2, by omega⟩
      | some q =>
        obtain ⟨b0, o0⟩ := q
        cases hb
        obtain ⟨g1, g2⟩ := h3 b0 o0 rfl
        simp only []
        rw [if_neg (by omega)]
        exact ⟨h1, h2, g2⟩
  · have hb : ((wE w) ++ [match bo with | some (b, o) => (lo, hi, b, o) | none => (lo, hi, (wE w).length, 0)])[k]? = some b := hb
    by_cases hk : k < (wE w).length
    · rw [List.getElem?_append_left hk] at hb
      exact h.2.2.2 k b hb
    · rw [List.getElem?_append_right (by omega)] at hb
      have hk0 : k - (wE w).length < 1 := (List.getElem?_eq_some_iff.mp hb).1
      rw [show k - (wE w).length = 0 by omega] at hb
      cases bo with
      | none => cases hb; exact Nat.le_of_not_lt hk
      | some q =>
        obtain ⟨b0, o0⟩ := q
        cases hb
        have := (h3 b0 o0 rfl).1
        exact Nat.le_trans (Nat.le_of_lt this) (Nat.le_of_not_lt hk)
theorem Fr_newI {lo hi : Int} (f : VL → Int32) (h : ∀ v, okW B v w → lo ≤ (f v).toInt ∧ (f v).toInt ≤ hi) : Fr B w (fun v => .int (f v)) (wNewI w lo hi none) := by
  refine ⟨wle_newI _ _ _, rfl, fun v hv => ⟨vIu v (wE w).length (f v), agr_vIu v _, newI_ok hv none (h v hv).1 (h v hv).2 (fun b o e => by cases e), ?_, ?_⟩⟩
  · show (wE w).length < ((wE w) ++ [_]).length
    simp
  · show Value.int (if (wE w).length = (wE w).length then f v else _) = _
    rw [if_pos rfl]
theorem Fr_newIb {lo hi : Int} {b : Nat} {o : Int} (f : VL → Int32) (h : ∀ v, okW B v w → lo ≤ (f v).toInt ∧ (f v).toInt ≤ hi ∧ b < (wE w).length ∧ (f v).toInt = (vI v b).toInt + o) : Fr B w (fun v => .int (f v)) (wNewI w lo hi (some (b, o))) := by
  refine ⟨wle_newI _ _ _, rfl, fun v hv => ⟨vIu v (wE w).length (f v), agr_vIu v _, newI_ok hv (some (b, o)) (h v hv).1 (h v hv).2.1 (fun b' o' e => by cases e; exact (h v hv).2.2), ?_, ?_⟩⟩
  · show (wE w).length < ((wE w) ++ [_]).length
    simp
  · show Value.int (if (wE w).length = (wE w).length then f v else _) = _
    rw [if_pos rfl]
theorem Fr_top (f : VL → Int32) : Fr B w (fun v => .int (f v)) (wTop w) := Fr_newI f (fun v _ => z_toInt (f v))
theorem Fr_newU (f : VL → Int64) : Fr B w (fun v => .long (f v)) (wNewU w) := by
  refine ⟨⟨Nat.le_refl _, Nat.le_refl _, Nat.le_succ _, Nat.le_refl _, Nat.le_refl _⟩, rfl, fun v hv => ⟨vJu v (wL w) (f v), agr_vJu v _, ?_, ?_, ?_⟩⟩
  · exact okW_ext hv (agr_vJu v _) ⟨Nat.le_refl _, Nat.le_refl _, Nat.le_succ _, Nat.le_refl _, Nat.le_refl _⟩ rfl hv.1 hv.2.2.2
  · show wL w < wL w + 1
    omega
  · show Value.long (if wL w = wL w then f v else _) = _
    rw [if_pos rfl]
theorem Fr.ext {val' : VL → Value} {r : AW × AV} (h : Fr B w val r) (e : ∀ v, okW B v w → val v = val' v) : Fr B w val' r :=
  ⟨h.1, h.2.1, fun v hv => by obtain ⟨v', a, b, c, d⟩ := h.2.2 v hv; exact ⟨v', a, b, c, d.trans (e v hv)⟩⟩
/-- the machine's int operations by number -/
def iV (op : Nat) (x y : Int32) : Int32 :=
  match op with
  | 0 => x + y
  | 1 => x - y
  | 2 => x * y
  | 3 => x / y
  | 4 => x - x / y * y
  | 5 => x &&& y
  | 6 => x ||| y
  | 7 => x ^^^ y
  | 8 => x <<< (y &&& 31)
  | 9 => x >>> (y &&& 31)
  | _ => (x.toUInt32 >>> (y.toUInt32 &&& Int32.toUInt32 31)).toInt32
theorem iop_cc (a b : Int) (op : Nat) : iop w op (.inl a) (.inl b) = if inI a && inI b then
      match op with
      | 0 => some (w, aI (zWr (a + b)))
      | 1 => some (w, aI (zWr (a - b)))
      | 2 => some (w, aI (zWr (a * b)))
      | 3 => if b = 0 then none else some (w, aI (zWr (a.tdiv b)))
      | 4 => if b = 0 then none else some (w, aI (zWr (a - a.tdiv b * b)))
      | 5 => some (w, aI (zOf (Nat.land (zN a) (zN b))))
      | 6 => some (w, aI (zOf (Nat.lor (zN a) (zN b))))
      | 7 => some (w, aI (zOf (Nat.xor (zN a) (zN b))))
      | 8 => some (w, aI (zOf ((zN a * 2 ^ (zN b % 32)) % 4294967296)))
      | 9 => some (w, aI (a / 2 ^ (zN b % 32)))
      | 10 => some (w, aI (zOf (zN a / 2 ^ (zN b % 32))))
      | _ => none
    else none := rfl
theorem iop_sc (k : Nat) (b : Int) (op : Nat) : iop w op (.inr (.inl k)) (.inl b) = match (wE w)[k]? with
    | none => none
    | some e =>
      if inI b then
        match op with
        | 0 => if inI (e.1 + b) && inI (e.2.1 + b) then some (wNewI w (e.1 + b) (e.2.1 + b) (some (e.2.2.1, e.2.2.2 + b))) else some (wTop w)
        | 1 => if inI (e.1 - b) && inI (e.2.1 - b) then some (wNewI w (e.1 - b) (e.2.1 - b) (some (e.2.2.1, e.2.2.2 - b))) else some (wTop w)
        | 3 => none
        | 4 => none
        | 5 => if 0 ≤ b then some (wNewI w 0 b none) else some (wTop w)
        | _ => if Nat.ble op 10 then some (wTop w) else none
      else none := rfl
theorem iop_ok {op : Nat} {x y : AV} {r : AW × AV} (h : iop w op x y = some r) : aIsI x = true ∧ aIsI y = true ∧ op ≤ 10 ∧ (op = 3 ∨ op = 4 → ∀ v, okW B v w → ¬ cZ v y = 0) ∧ Fr B w (fun v => .int (iV op (cZ v x) (cZ v y))) r := by
  have gen : ∀ (x y : AV), (if aIsI x && aIsI y && Nat.ble op 10 && !(Nat.beq op 3) && !(Nat.beq op 4) then some (wTop w) else none) = some r → aIsI x = true ∧ aIsI y = true ∧ op ≤ 10 ∧ (op = 3 ∨ op = 4 → ∀ v, okW B v w → ¬ cZ v y = 0) ∧ Fr B w (fun v => .int (iV op (cZ v x) (cZ v y))) r := by
    intro x y h
    split at h
    · rename_i hc
      simp only [Bool.and_eq_true, Bool.not_eq_true'] at hc
      obtain ⟨⟨⟨⟨h1, h2⟩, h3⟩, h4⟩, h5⟩ := hc
      cases h
      refine ⟨h1, h2, Nat.le_of_ble_eq_true h3, fun q => ?_, Fr_top _⟩
      rcases q with q | q
      · subst q; cases h4
      · subst q; cases h5
    · cases h
  rcases x with a | k | n | k | q | k
  · rcases y with b | k' | n | k' | q | k'
    · rw [iop_cc] at h
      by_cases hc : (inI a && inI b) = true
      · rw [if_pos hc] at h
        simp only [Bool.and_eq_true] at hc
        obtain ⟨ha, hb⟩ := hc
        have mk : ∀ (z : Int) (op' : Nat), op = op' → op' ≤ 10 → (op' = 3 ∨ op' = 4 → b ≠ 0) → some (w, aI z) = some r → Int32.ofInt z = iV op' (Int32.ofInt a) (Int32.ofInt b) → aIsI (.inl a : AV) = true ∧ aIsI (.inl b : AV) = true ∧ op ≤ 10 ∧ (op = 3 ∨ op = 4 → ∀ v, okW B v w → ¬ cZ v (.inl b) = 0) ∧ Fr B w (fun v => .int (iV op (cZ v (.inl a)) (cZ v (.inl b)))) r := by
          intro z op' e1 e2 e3 e4 e5
          subst e1
          cases e4
          exact ⟨rfl, rfl, e2, fun q _ _ => z_ne hb (e3 q), Fr_same trivial (fun v _ => by show Value.int _ = Value.int _; rw [e5]; rfl)⟩
        match op, h with
        | 0, h => exact mk _ 0 rfl (by decide) (by simp) h (by rw [z_wr, Int32.ofInt_add]; rfl)
        | 1, h => exact mk _ 1 rfl (by decide) (by simp) h (by rw [z_wr, Int32.ofInt_sub]; rfl)
        | 2, h => exact mk _ 2 rfl (by decide) (by simp) h (by rw [z_wr, Int32.ofInt_mul]; rfl)
        | 3, h =>
          by_cases hz : b = 0
          · simp [hz] at h
          · simp only [hz, if_false] at h
            exact mk _ 3 rfl (by decide) (fun _ => hz) h (z_div ha hb)
        | 4, h =>
          by_cases hz : b = 0
          · simp [hz] at h
          · simp only [hz, if_false] at h
            exact mk _ 4 rfl (by decide) (fun _ => hz) h (z_rem ha hb)
        | 5, h => exact mk _ 5 rfl (by decide) (by simp) h (z_and a b)
        | 6, h => exact mk _ 6 rfl (by decide) (by simp) h (z_or a b)
        | 7, h => exact mk _ 7 rfl (by decide) (by simp) h (z_xor a b)
        | 8, h => exact mk _ 8 rfl (by decide) (by simp) h (z_shl a b)
        | 9, h => exact mk _ 9 rfl (by decide) (by simp) h (z_shr b ha)
        | 10, h => exact mk _ 10 rfl (by decide) (by simp) h (z_ushr a b)
        | op + 11, h => cases h
      · rw [if_neg hc] at h
        cases h
    all_goals exact gen _ _ h
  · rcases y with b | k' | n | k' | q | k'
    · rw [iop_sc] at h
      cases he : (wE w)[k]? with
      | none => rw [he] at h; cases h
      | some e =>
        rw [he] at h
        simp only [] at h
        by_cases hb : inI b = true
        · rw [if_pos hb] at h
          have hbnd : ∀ v, okW B v w → e.1 ≤ (vI v k).toInt ∧ (vI v k).toInt ≤ e.2.1 ∧ (vI v k).toInt = (vI v e.2.2.1).toInt + e.2.2.2 := fun v hv => hv.1 k e he
          have mk : ∀ op', op = op' → op' ≤ 10 → op' ≠ 3 → op' ≠ 4 → Fr B w (fun v => .int (iV op' (cZ v (.inr (.inl k))) (cZ v (.inl b)))) r → aIsI (.inr (.inl k) : AV) = true ∧ aIsI (.inl b : AV) = true ∧ op ≤ 10 ∧ (op = 3 ∨ op = 4 → ∀ v, okW B v w → ¬ cZ v (.inl b) = 0) ∧ Fr B w (fun v => .int (iV op (cZ v (.inr (.inl k))) (cZ v (.inl b)))) r := by
            intro op' e1 e2 e3 e4 e5
            subst e1
            exact ⟨rfl, rfl, e2, fun q => by rcases q with q | q <;> contradiction, e5⟩
          match op, h with
          | 0, h =>
            by_cases hi : (inI (e.1 + b) && inI (e.2.1 + b)) = true
            · simp only [hi, if_true] at h
              cases h
              simp only [Bool.and_eq_true] at hi
              refine mk 0 rfl (by decide) (by decide) (by decide) (Fr_newIb _ (fun v hv => ?_))
              have q := hbnd v hv
              have r1 := z_rng hi.1
              have r2 := z_rng hi.2
              have q5 : (vI v k + Int32.ofInt b).toInt = (vI v k).toInt + b := by
                rw [Int32.toInt_add, z_in hb]
                exact Int.bmod_eq_of_le (by omega) (by omega)
              show _ ≤ (vI v k + Int32.ofInt b).toInt ∧ (vI v k + Int32.ofInt b).toInt ≤ _ ∧ _ ∧ (vI v k + Int32.ofInt b).toInt = _
              rw [q5]
              exact ⟨by omega, by omega, Nat.lt_of_le_of_lt (hv.2.2.2 k e he) (List.getElem?_eq_some_iff.mp he).1, by omega⟩
            · simp only [hi, if_false] at h
              cases h
              exact mk 0 rfl (by decide) (by decide) (by decide) (Fr_top _)
          | 1, h =>
            by_cases hi : (inI (e.1 - b) && inI (e.2.1 - b)) = true
            · simp only [hi, if_true] at h
              cases h
              simp only [Bool.and_eq_true] at hi
              refine mk 1 rfl (by decide) (by decide) (by decide) (Fr_newIb _ (fun v hv => ?_))
              have q := hbnd v hv
              have r1 := z_rng hi.1
              have r2 := z_rng hi.2
              have q5 : (vI v k - Int32.ofInt b).toInt = (vI v k).toInt - b := by
                rw [Int32.toInt_sub, z_in hb]
                exact Int.bmod_eq_of_le (by omega) (by omega)
              show _ ≤ (vI v k - Int32.ofInt b).toInt ∧ (vI v k - Int32.ofInt b).toInt ≤ _ ∧ _ ∧ (vI v k - Int32.ofInt b).toInt = _
              rw [q5]
              exact ⟨by omega, by omega, Nat.lt_of_le_of_lt (hv.2.2.2 k e he) (List.getElem?_eq_some_iff.mp he).1, by omega⟩
            · simp only [hi, if_false] at h
              cases h
              exact mk 1 rfl (by decide) (by decide) (by decide) (Fr_top _)
          | 2, h => cases h; exact mk 2 rfl (by decide) (by decide) (by decide) (Fr_top _)
          | 3, h => cases h
          | 4, h => cases h
          | 5, h =>
            by_cases h0 : 0 ≤ b
            · simp only [h0, if_true] at h
              cases h
              exact mk 5 rfl (by decide) (by decide) (by decide) (Fr_newI _ (fun v _ => z_and_rng (vI v k) hb h0))
            · simp only [h0, if_false] at h
              cases h
              exact mk 5 rfl (by decide) (by decide) (by decide) (Fr_top _)
          | 6, h => cases h; exact mk 6 rfl (by decide) (by decide) (by decide) (Fr_top _)
          | 7, h => cases h; exact mk 7 rfl (by decide) (by decide) (by decide) (Fr_top _)
          | 8, h => cases h; exact mk 8 rfl (by decide) (by decide) (by decide) (Fr_top _)
          | 9, h => cases h; exact mk 9 rfl (by decide) (by decide) (by decide) (Fr_top _)
          | 10, h => cases h; exact mk 10 rfl (by decide) (by decide) (by decide) (Fr_top _)
          | op + 11, h => cases h
        · rw [if_neg hb] at h
          cases h
    all_goals exact gen _ _ h
  all_goals (rcases y with b | k' | n' | k' | q' | k' <;> exact gen _ _ h)
/-- longs by number -/
def lV (op : Nat) (x y : Int64) : Int64 :=
  match op with
  | 0 => x + y
  | 1 => x - y
  | 2 => x &&& y
  | 3 => x ||| y
  | _ => x ^^^ y
theorem lop_cc (n n' : Nat) (op : Nat) : lop w op (.inr (.inr (.inl n))) (.inr (.inr (.inl n'))) = match op with
    | 0 => some (w, aJ ((n + n') % 18446744073709551616))
    | 1 => if Nat.ble n' 18446744073709551616 then some (w, aJ ((n + (18446744073709551616 - n')) % 18446744073709551616)) else none
    | 2 => some (w, aJ (Nat.land n n'))
    | 3 => some (w, aJ (Nat.lor n n'))
    | 4 => some (w, aJ (Nat.xor n n'))
    | _ => none := rfl
theorem lop_okc {op : Nat} {n n' : Nat} {r : AW × AV} (h : lop w op (.inr (.inr (.inl n))) (.inr (.inr (.inl n'))) = some r) : op ≤ 4 ∧ Fr B w (fun v => .long (lV op (lN n) (lN n'))) r := by
  rw [lop_cc] at h
  match op, h with
  | 0, h => cases h; exact ⟨by decide, Fr_same trivial (fun v _ => by show Value.long _ = Value.long _; rw [q_add]; rfl)⟩
  | 1, h =>
    by_cases hb : Nat.ble n' 18446744073709551616 = true
    · simp only [hb, if_true] at h
      cases h
      exact ⟨by decide, Fr_same trivial (fun v _ => by show Value.long _ = Value.long _; rw [q_sub _ _ (Nat.le_of_ble_eq_true hb)]; rfl)⟩
    · simp only [hb, if_false] at h
      cases h
  | 2, h => cases h; exact ⟨by decide, Fr_same trivial (fun v _ => by show Value.long _ = Value.long _; rw [q_and]; rfl)⟩
  | 3, h => cases h; exact ⟨by decide, Fr_same trivial (fun v _ => by show Value.long _ = Value.long _; rw [q_or]; rfl)⟩
  | 4, h => cases h; exact ⟨by decide, Fr_same trivial (fun v _ => by show Value.long _ = Value.long _; rw [q_xor]; rfl)⟩
  | op + 5, h => cases h
theorem lop_ok {op : Nat} {x y : AV} {r : AW × AV} (h : lop w op x y = some r) : aIsL x = true ∧ aIsL y = true ∧ op ≤ 4 ∧ Fr B w (fun v => .long (lV op (cQ v x) (cQ v y))) r := by
  have gen : ∀ (x y : AV), (if aIsL x && aIsL y && Nat.ble op 4 then some (wNewU w) else none) = some r → aIsL x = true ∧ aIsL y = true ∧ op ≤ 4 ∧ Fr B w (fun v => .long (lV op (cQ v x) (cQ v y))) r := by
    intro x y h
    split at h
    · rename_i hc
      simp only [Bool.and_eq_true] at hc
      cases h
      exact ⟨hc.1.1, hc.1.2, Nat.le_of_ble_eq_true hc.2, Fr_newU _⟩
    · cases h
  rcases x with a | k | n | k | q | k
  · rcases y with b | k' | n' | k' | q' | k' <;> exact gen _ _ h
  · rcases y with b | k' | n' | k' | q' | k' <;> exact gen _ _ h
  · rcases y with b | k' | n' | k' | q' | k'
    · exact gen _ _ h
    · exact gen _ _ h
    · exact ⟨rfl, rfl, lop_okc h⟩
    · exact gen _ _ h
    · exact gen _ _ h
    · exact gen _ _ h
  all_goals (rcases y with b | k' | n' | k' | q' | k' <;> exact gen _ _ h)
def shV (left : Bool) (x : Int64) (y : Int32) : Int64 := if left then x <<< (y.toInt64 &&& 63) else (x.toUInt64 >>> (y.toInt64.toUInt64 &&& Int64.toUInt64 63)).toInt64
theorem lSh_ok {left : Bool} {x y : AV} {r : AW × AV} (h : lSh w left x y = some r) : aIsL x = true ∧ aIsI y = true ∧ Fr B w (fun v => .long (shV left (cQ v x) (cZ v y))) r := by
  have z0 : ∀ z : Int32, shV left (lN 0) z = lN 0 := by
    intro z
    apply q_ext
    cases left with
    | true =>
      show ((lN 0) <<< (z.toInt64 &&& 63)).toBitVec.toNat = _
      rw [Int64.toBitVec_shiftLeft, show (lN 0).toBitVec = 0#64 from rfl, BitVec.shiftLeft_eq', BitVec.toNat_shiftLeft]
      simp
    | false =>
      show ((lN 0).toUInt64 >>> _).toBitVec.toNat = _
      rw [UInt64.toBitVec_shiftRight, show (lN 0).toUInt64.toBitVec = 0#64 from rfl, BitVec.ushiftRight_eq', BitVec.toNat_ushiftRight]
      simp
      rfl
  have gen : ∀ (x y : AV), (if aIsL x && aIsI y then some (match x with | .inr (.inr (.inl 0)) => (w, aJ 0) | _ => wNewU w) else none) = some r → aIsL x = true ∧ aIsI y = true ∧ Fr B w (fun v => .long (shV left (cQ v x) (cZ v y))) r := by
    intro x y h
    by_cases hc : (aIsL x && aIsI y) = true
    · rw [if_pos hc] at h
      simp only [Bool.and_eq_true] at hc
      refine ⟨hc.1, hc.2, ?_⟩
      split at h
      · cases h
        exact Fr_same trivial (fun v _ => by show Value.long (lN 0) = Value.long _; exact congrArg _ (z0 _).symm)
      · cases h
        exact Fr_newU _
    · rw [if_neg hc] at h
      cases h
  rcases x with a | k | n | k | q | k
  · rcases y with b | k' | n' | k' | q' | k' <;> exact gen _ _ h
  · rcases y with b | k' | n' | k' | q' | k' <;> exact gen _ _ h
  · rcases y with b | k' | n' | k' | q' | k'
    · have h : (if Nat.blt n 18446744073709551616 && inI b then
        (if left then some (w, aJ ((n * 2 ^ (zN b % 64)) % 18446744073709551616)) else some (w, aJ (n / 2 ^ (zN b % 64)))) else none) = some r := h
      by_cases hc : (Nat.blt n 18446744073709551616 && inI b) = true
      · rw [if_pos hc] at h
        simp only [Bool.and_eq_true] at hc
        cases left with
        | true =>
          cases h
          exact ⟨rfl, rfl, Fr_same trivial (fun v _ => by show Value.long _ = Value.long _; rw [q_shl _ _ hc.2]; rfl)⟩
        | false =>
          cases h
          exact ⟨rfl, rfl, Fr_same trivial (fun v _ => by show Value.long _ = Value.long _; rw [q_shr _ _ (Nat.blt_eq.mp hc.1) hc.2]; rfl)⟩
      · rw [if_neg hc] at h
        cases h
    all_goals exact gen _ _ h
  all_goals (rcases y with b | k' | n' | k' | q' | k' <;> exact gen _ _ h)
theorem lCm_ok {x y : AV} {r : AW × AV} (h : lCm w x y = some r) : aIsL x = true ∧ aIsL y = true ∧ Fr B w (fun v => .int (lg_cmp (cQ v x) (cQ v y))) r := by
  have gen : ∀ (x y : AV), (if aIsL x && aIsL y then some (wNewI w (-1) 1 none) else none) = some r → aIsL x = true ∧ aIsL y = true ∧ Fr B w (fun v => .int (lg_cmp (cQ v x) (cQ v y))) r := by
    intro x y h
    split at h
    · rename_i hc
      simp only [Bool.and_eq_true] at hc
      cases h
      exact ⟨hc.1, hc.2, Fr_newI _ (fun v _ => lg_rng _ _)⟩
    · cases h
  rcases x with a | k | n | k | q | k
  · rcases y with b | k' | n' | k' | q' | k' <;> exact gen _ _ h
  · rcases y with b | k' | n' | k' | q' | k' <;> exact gen _ _ h
  · rcases y with b | k' | n' | k' | q' | k'
    · exact gen _ _ h
    · exact gen _ _ h
    · have h : (if Nat.blt n 18446744073709551616 && Nat.blt n' 18446744073709551616 then some (w, aI (if lSg n' < lSg n then 1 else if lSg n = lSg n' then 0 else -1)) else none) = some r := h
      by_cases hc : (Nat.blt n 18446744073709551616 && Nat.blt n' 18446744073709551616) = true
      · rw [if_pos hc] at h
        simp only [Bool.and_eq_true] at hc
        cases h
        exact ⟨rfl, rfl, Fr_same trivial (fun v _ => by show Value.int _ = Value.int _; rw [q_cmp (Nat.blt_eq.mp hc.1) (Nat.blt_eq.mp hc.2)]; rfl)⟩
      · rw [if_neg hc] at h
        cases h
    all_goals exact gen _ _ h
  all_goals (rcases y with b | k' | n' | k' | q' | k' <;> exact gen _ _ h)
end
