/-! When a world is one of those that another stands for -/
def vz : Value → Int32
  | .int x => x
  | _ => 0
def vq : Value → Int64
  | .long x => x
  | _ => 0
def vr : Value → Option Nat
  | .ref a => some a
  | _ => none
theorem cZ_cv (v : VL) (a : AV) : cZ v a = vz (cv v a) := by
  rcases a with z | k | n | k | r | k
  · rfl
  · rfl
  · rfl
  · rfl
  · cases r <;> rfl
  · rfl
theorem cQ_cv (v : VL) (a : AV) : cQ v a = vq (cv v a) := by
  rcases a with z | k | n | k | r | k
  · rfl
  · rfl
  · rfl
  · rfl
  · cases r <;> rfl
  · rfl
theorem cR_cv (v : VL) (a : AV) : cR v a = vr (cv v a) := by
  rcases a with z | k | n | k | r | k
  · rfl
  · rfl
  · rfl
  · rfl
  · cases r <;> rfl
  · rfl
theorem getD_cv (v : VL) (l : List AV) (j : Nat) (d : AV) : cv v (l.getD j d) = (l.map (cv v)).getD j (cv v d) := by
  rw [List.getD_eq_getElem?_getD, List.getD_eq_getElem?_getD, List.getElem?_map]
  cases l[j]? <;> rfl
def pF : List (Nat × AV) → Nat → Option AV
  | [], _ => none
  | q :: r, k => if q.1 = k then some q.2 else pF r k
def qF : List (Nat × AB) → Nat → Option AB
  | [], _ => none
  | q :: r, k => if q.1 = k then some q.2 else qF r k
theorem nIn_ok {k : Nat} : ∀ {l : List Nat}, nIn k l = true → ∀ a ∈ l, a ≠ k
  | [], _, a, ha => absurd ha List.not_mem_nil
  | b :: r, h, a, ha => by
    replace h : (!(Nat.beq b k) && nIn k r) = true := h
    simp only [Bool.and_eq_true, Bool.not_eq_true'] at h
    rcases List.mem_cons.mp ha with e | e
    · subst e
      intro q
      subst q
      rw [Nat.beq_refl] at h
      cases h.1
    · exact nIn_ok h.2 a e
theorem pF_ok : ∀ {P : List (Nat × AV)}, ndp (P.map Prod.fst) = true → ∀ {k : Nat} {a : AV}, (k, a) ∈ P → pF P k = some a
  | [], _, k, a, h => absurd h List.not_mem_nil
  | q :: r, hn, k, a, h => by
    have hn : (nIn q.1 (r.map Prod.fst) && ndp (r.map Prod.fst)) = true := hn
    simp only [Bool.and_eq_true] at hn
    rcases List.mem_cons.mp h with e | e
    · subst e
      show (if k = k then some a else _) = _
      rw [if_pos rfl]
    · have : k ≠ q.1 := nIn_ok hn.1 k (List.mem_map_of_mem (f := Prod.fst) e)
      show (if q.1 = k then _ else pF r k) = _
      rw [if_neg (Ne.symm this)]
      exact pF_ok hn.2 e
theorem qF_ok : ∀ {P : List (Nat × AB)}, ndp (P.map Prod.fst) = true → ∀ {k : Nat} {a : AB}, (k, a) ∈ P → qF P k = some a
  | [], _, k, a, h => absurd h List.not_mem_nil
  | q :: r, hn, k, a, h => by
    have hn : (nIn q.1 (r.map Prod.fst) && ndp (r.map Prod.fst)) = true := hn
    simp only [Bool.and_eq_true] at hn
    rcases List.mem_cons.mp h with e | e
    · subst e
      show (if k = k then some a else _) = _
      rw [if_pos rfl]
    · have : k ≠ q.1 := nIn_ok hn.1 k (List.mem_map_of_mem (f := Prod.fst) e)
      show (if q.1 = k then _ else qF r k) = _
      rw [if_neg (Ne.symm this)]
      exact qF_ok hn.2 e
/-- what the new symbols stand for -/
def mv (n : Nat × Nat × Nat) (F : AE) (P : List (Nat × AV)) (Q : List (Nat × AB)) (v : VL) : VL :=
  (fun k => if k < n.1 then vI v k else match pF P (2 * k) with | some a => cZ v a | none => Int32.ofInt (F.getD k (0, 0, 0, 0)).1,
   fun k => if k < n.2.1 then vJ v k else match pF P (2 * k + 1) with | some a => cQ v a | none => 0,
   vA v, vO v,
   fun k => if k < n.2.2 then vC v k else match qF Q k with | some b => cBz v b | none => fun _ => 0,
   fun k => if k < n.2.2 then vD v k else match qF Q k with | some b => cBq v b | none => fun _ => 0)
/-- a world of which only the counts matter -/
def fkw (n : Nat × Nat × Nat) (c x : Nat) : AW := (List.replicate n.1 (0, 0, 0, 0), (c, []), n.2.1, n.2.2, x)
theorem fkw_len (n : Nat × Nat × Nat) (c x : Nat) : (wE (fkw n c x)).length = n.1 := List.length_replicate
theorem leE_ok : ∀ {n : Nat} {E F : AE}, leE n E F = true → n ≤ E.length ∧ n ≤ F.length ∧ ∀ k, k < n → ∃ a b, E[k]? = some a ∧ F[k]? = some b ∧ b.1 ≤ a.1 ∧ a.2.1 ≤ b.2.1 ∧ b.2.2 = a.2.2
  | 0, _, _, _ => ⟨Nat.zero_le _, Nat.zero_le _, fun k hk => absurd hk (Nat.not_lt_zero k)⟩
  | n + 1, [], _, h => by cases h
  | n + 1, _ :: _, [], h => by cases h
  | n + 1, a :: r, b :: q, h => by
    replace h : (decide (b.1 ≤ a.1) && decide (a.2.1 ≤ b.2.1) && Nat.beq a.2.2.1 b.2.2.1 && decide (a.2.2.2 = b.2.2.2) && leE n r q) = true := h
    simp only [Bool.and_eq_true, decide_eq_true_eq] at h
    obtain ⟨⟨⟨⟨h1, h2⟩, h3⟩, h4⟩, h5⟩ := h
    obtain ⟨g1, g2, g3⟩ := leE_ok h5
    refine ⟨Nat.succ_le_succ g1, Nat.succ_le_succ g2, fun k hk => ?_⟩
    cases k with
    | zero => exact ⟨a, b, rfl, rfl, h1, h2, Prod.ext (Nat.eq_of_beq_eq_true h3).symm h4.symm⟩
    | succ k => exact g3 k (Nat.lt_of_succ_lt_succ hk)
theorem leG_ok : ∀ {k : Nat} {l : AE}, leG k l = true → ∀ (j : Nat) (e : Int × Int × Nat × Int), l[j]? = some e → e.2.2.1 = k + j ∧ e.2.2.2 = 0 ∧ e.1 ≤ e.2.1 ∧ inI e.1 = true
  | k, [], _, j, e, he => by simp at he
  | k, a :: r, h, j, e, he => by
    replace h : (Nat.beq a.2.2.1 k && decide (a.2.2.2 = 0) && decide (a.1 ≤ a.2.1) && inI a.1 && leG (k + 1) r) = true := h
    simp only [Bool.and_eq_true, decide_eq_true_eq] at h
    obtain ⟨⟨⟨⟨h1, h2⟩, h3⟩, h4⟩, h5⟩ := h
    cases j with
    | zero =>
      cases he
      exact ⟨Nat.eq_of_beq_eq_true h1, h2, h3, h4⟩
    | succ j =>
      have := leG_ok h5 j e he
      exact ⟨by omega, this.2⟩
section MT
variable {n : Nat × Nat × Nat} {w u : AW} {v : VL} {P : List (Nat × AV)} {Q : List (Nat × AB)} {dT : Nat → ClassId}
/-- the counts that go together -/
def MH (n : Nat × Nat × Nat) (w u : AW) : Prop := n.1 ≤ (wE u).length ∧ n.2.1 ≤ wL u ∧ n.2.2 ≤ wA u ∧ wX w = wX u ∧ (wH w).1 = (wH u).1
theorem mv_agr : agr (fkw n (wH w).1 (wX w)) v (mv n (wE u) P Q v) := by
  refine ⟨fun k hk => ?_, fun _ _ => rfl, fun k hk => ?_, fun k hk => ?_, fun _ _ => rfl⟩
  · rw [fkw_len] at hk
    show _ = if k < n.1 then _ else _
    rw [if_pos hk]
  · have hk : k < n.2.1 := hk
    show _ = if k < n.2.1 then _ else _
    rw [if_pos hk]
  · have hk : k < n.2.2 := hk
    constructor
    · show _ = if k < n.2.2 then _ else _
      rw [if_pos hk]
    · show _ = if k < n.2.2 then _ else _
      rw [if_pos hk]
theorem mtV_ok (hm : MH n w u) (hP : ndp (P.map Prod.fst) = true) (hE : okE v (wE w)) {a b : AV} {p : List (Nat × AV)} (h : mtV (wE w) (wE u) n (wL u) a b = some p) (hp : ∀ q ∈ p, q ∈ P) (hs : scV w a) : cv (mv n (wE u) P Q v) b = cv v a ∧ scV u b := by
  rcases b with z | k | m | k | r | k
  · replace h : (if decide (aNm (wE w) a = .inl z) = true then some [] else none) = some p := h
    split at h
    · rename_i hc
      have hc := of_decide_eq_true hc
      rw [← aNm_cv hE a, hc]
      exact ⟨rfl, trivial⟩
    · cases h
  · replace h : (if Nat.ble n.1 k = true then (match aBd (wE w) a, (wE u)[k]? with
      | some p, some e => if (decide (e.1 ≤ p.1) && decide (p.2 ≤ e.2.1)) = true then some [(2 * k, a)] else none
      | _, _ => none) else if decide (aNm (wE w) a = aNm (wE w) (.inr (.inl k))) = true then some [] else none) = some p := h
    by_cases hk : Nat.ble n.1 k = true
    · rw [if_pos hk] at h
      have hk := Nat.le_of_ble_eq_true hk
      cases ha : aBd (wE w) a with
      | none => rw [ha] at h; cases h
      | some p0 =>
        cases he : (wE u)[k]? with
        | none => rw [ha, he] at h; cases h
        | some e =>
          rw [ha, he] at h
          simp only [] at h
          split at h
          · cases h
            have hf := pF_ok hP (hp _ List.mem_cons_self)
            constructor
            · show Value.int (if k < n.1 then _ else _) = _
              rw [if_neg (by omega), hf, cv_int (aBd_int ha)]
            · exact (List.getElem?_eq_some_iff.mp he).1
          · cases h
    · rw [if_neg hk] at h
      have hk : k < n.1 := Nat.lt_of_not_le (fun q => hk (Nat.ble_eq_true_of_le q))
      split at h
      · rename_i hc
        have hc := of_decide_eq_true hc
        constructor
        · rw [← aNm_cv hE a, hc, aNm_cv hE]
          show Value.int (if k < n.1 then _ else _) = _
          rw [if_pos hk]
          rfl
        · exact Nat.lt_of_lt_of_le hk hm.1
      · cases h
  · replace h : (if decide (a = .inr (.inr (.inl m))) = true then some [] else none) = some p := h
    split at h
    · rename_i hc
      rw [of_decide_eq_true hc]
      exact ⟨rfl, trivial⟩
    · cases h
  · replace h : (if Nat.ble n.2.1 k = true then (if (aIsL a && Nat.blt k (wL u)) = true then some [(2 * k + 1, a)] else none) else if decide (a = .inr (.inr (.inr (.inl k)))) = true then some [] else none) = some p := h
    by_cases hk : Nat.ble n.2.1 k = true
    · rw [if_pos hk] at h
      have hk := Nat.le_of_ble_eq_true hk
      split at h
      · rename_i hc
        simp only [Bool.and_eq_true] at hc
        cases h
        have hf := pF_ok hP (hp _ List.mem_cons_self)
        constructor
        · show Value.long (if k < n.2.1 then _ else _) = _
          rw [if_neg (by omega), hf, cv_long hc.1]
        · exact Nat.blt_eq.mp hc.2
      · cases h
    · rw [if_neg hk] at h
      have hk : k < n.2.1 := Nat.lt_of_not_le (fun q => hk (Nat.ble_eq_true_of_le q))
      split at h
      · rename_i hc
        rw [of_decide_eq_true hc]
        constructor
        · show Value.long (if k < n.2.1 then _ else _) = _
          rw [if_pos hk]
          rfl
        · exact Nat.lt_of_lt_of_le hk hm.2.1
      · cases h
  · replace h : (if decide (a = .inr (.inr (.inr (.inr (.inl r))))) = true then some [] else none) = some p := h
    split at h
    · rename_i hc
      have hc := of_decide_eq_true hc
      subst hc
      refine ⟨rfl, ?_⟩
      cases r with
      | none => trivial
      | some i =>
        have hs : i < (wH w).1 := hs
        show i < (wH u).1
        rw [← hm.2.2.2.2]
        exact hs
    · cases h
  · replace h : (if decide (a = .inr (.inr (.inr (.inr (.inr k))))) = true then some [] else none) = some p := h
    split at h
    · rename_i hc
      have hc := of_decide_eq_true hc
      subst hc
      refine ⟨rfl, ?_⟩
      have hs : k < wX w := hs
      show k < wX u
      rw [← hm.2.2.2.1]
      exact hs
    · cases h
theorem mtL_ok (hm : MH n w u) (hP : ndp (P.map Prod.fst) = true) (hE : okE v (wE w)) : ∀ {l q : List AV} {p : List (Nat × AV)}, mtL (wE w) (wE u) n (wL u) l q = some p → (∀ z ∈ p, z ∈ P) → (∀ a ∈ l, scV w a) → q.map (cv (mv n (wE u) P Q v)) = l.map (cv v) ∧ ∀ b ∈ q, scV u b
  | [], [], p, _, _, _ => ⟨rfl, fun b hb => absurd hb List.not_mem_nil⟩
  | [], _ :: _, p, h, _, _ => by cases h
  | _ :: _, [], p, h, _, _ => by cases h
  | a :: r, b :: q, p, h, hp, hs => by
    replace h : (match mtV (wE w) (wE u) n (wL u) a b, mtL (wE w) (wE u) n (wL u) r q with
      | some x, some y => some (x ++ y)
      | _, _ => none) = some p := h
    cases h1 : mtV (wE w) (wE u) n (wL u) a b with
    | none => rw [h1] at h; cases h
    | some x =>
      cases h2 : mtL (wE w) (wE u) n (wL u) r q with
      | none => rw [h1, h2] at h; cases h
      | some y =>
        rw [h1, h2] at h
        cases h
        have g1 := mtV_ok (Q := Q) hm hP hE h1 (fun z hz => hp z (List.mem_append_left _ hz)) (hs a List.mem_cons_self)
        have g2 := mtL_ok hm hP hE h2 (fun z hz => hp z (List.mem_append_right _ hz)) (fun z hz => hs z (List.mem_cons_of_mem _ hz))
        refine ⟨by rw [List.map_cons, List.map_cons, g1.1, g2.1], fun c hc => ?_⟩
        rcases List.mem_cons.mp hc with e | e
        · rw [e]; exact g1.2
        · exact g2.2 c e
theorem inB_ok (hE : okE v (wE w)) {lo hi : Int} {a : AV} (h : inB (wE w) lo hi a = true) : lo ≤ (cZ v a).toInt ∧ (cZ v a).toInt ≤ hi := by
  unfold inB at h
  cases ha : aBd (wE w) a with
  | none => rw [ha] at h; cases h
  | some p =>
    rw [ha] at h
    simp only [Bool.and_eq_true, decide_eq_true_eq] at h
    have := aBd_ok hE ha
    omega
theorem mtB_ok (hm : MH n w u) (hP : ndp (P.map Prod.fst) = true) (hQ : ndp (Q.map Prod.fst) = true) (hE : okE v (wE w)) {t m : Nat} {b c : AB} {p : List (Nat × AV) × List (Nat × AB)} (h : mtB (wE w) (wE u) n (wL u) (wA u) t m b c = some p) (h1 : ∀ z ∈ p.1, z ∈ P) (h2 : ∀ z ∈ p.2, z ∈ Q) (hs : scC w (.inl (t, m, b))) (ho : okC v (.inl (t, m, b))) :
    cB (mv n (wE u) P Q v) t m c = cB v t m b ∧ scC u (.inl (t, m, c)) ∧ okC (mv n (wE u) P Q v) (.inl (t, m, c)) := by
  rcases c with q | e
  · rcases b with l | e
    · replace h : (match mtL (wE w) (wE u) n (wL u) l q with
        | some P => some (P, [])
        | none => none) = some p := h
      cases hl : mtL (wE w) (wE u) n (wL u) l q with
      | none => rw [hl] at h; cases h
      | some y =>
        rw [hl] at h
        cases h
        obtain ⟨g1, g2⟩ := mtL_ok (Q := Q) hm hP hE hl h1 hs
        refine ⟨cB_ext (fun _ j _ => ?_) (fun _ j _ => ?_) (fun _ j _ => ?_), g2, trivial⟩
        · show cZ _ (q.getD j _) = cZ v (l.getD j _)
          rw [cZ_cv, cZ_cv, getD_cv, getD_cv, g1]
          rfl
        · show cQ _ (q.getD j _) = cQ v (l.getD j _)
          rw [cQ_cv, cQ_cv, getD_cv, getD_cv, g1]
          rfl
        · show cR _ (q.getD j _) = cR v (l.getD j _)
          rw [cR_cv, cR_cv, getD_cv, getD_cv, g1]
          rfl
    · replace h : (if (decide (e.1 = e.2.1) && inI e.1 && (Nat.beq t 0 || Nat.beq t 2) && Nat.beq q.length m) = true then (match mtL (wE w) (wE u) n (wL u) (List.replicate m (aI e.1)) q with
        | some P => some (P, [])
        | none => none) else none) = some p := h
      split at h
      · rename_i hc
        simp only [Bool.and_eq_true, decide_eq_true_eq, Bool.or_eq_true] at hc
        obtain ⟨⟨⟨c1, c2⟩, c3⟩, c4⟩ := hc
        have c4 := Nat.eq_of_beq_eq_true c4
        have ht : t = 0 ∨ t = 2 := c3.imp Nat.eq_of_beq_eq_true Nat.eq_of_beq_eq_true
        cases hl : mtL (wE w) (wE u) n (wL u) (List.replicate m (aI e.1)) q with
        | none => rw [hl] at h; cases h
        | some y =>
          rw [hl] at h
          cases h
          obtain ⟨g1, g2⟩ := mtL_ok (Q := Q) hm hP hE hl h1 (fun a ha => by rw [(List.mem_replicate.mp ha).2]; trivial)
          refine ⟨cB_ext (fun _ j hj => ?_) (fun q _ _ => by omega) (fun q _ _ => by omega), g2, trivial⟩
          show cZ _ (q.getD j _) = vC v e.2.2 j
          rw [cZ_cv, getD_cv, g1]
          show vz ((List.map (cv v) (List.replicate m (aI e.1))).getD j (cv v (aI 0))) = _
          rw [← getD_cv, List.getD_eq_getElem?_getD, List.getElem?_replicate, if_pos hj]
          have := ho (by omega) j hj
          show Int32.ofInt e.1 = _
          apply Int32.toInt_inj.1
          rw [z_in c2]
          omega
      · cases h
  · replace h : (if Nat.ble n.2.2 e.2.2 = true then (if (Nat.blt e.2.2 (wA u) && btw (wE w) t m e.1 e.2.1 b) = true then some ([], [(e.2.2, b)]) else none) else (match b with | .inr f => if (Nat.beq f.2.2 e.2.2 && decide (f.1 = e.1) && decide (f.2.1 = e.2.1)) = true then some ([], []) else none | .inl _ => none)) = some p := h
    by_cases hk : Nat.ble n.2.2 e.2.2 = true
    · rw [if_pos hk] at h
      have hk := Nat.le_of_ble_eq_true hk
      split at h
      · rename_i hc
        simp only [Bool.and_eq_true] at hc
        obtain ⟨c1, c2⟩ := hc
        cases h
        have hf := qF_ok hQ (h2 _ List.mem_cons_self)
        have z1 : ∀ j, vC (mv n (wE u) P Q v) e.2.2 j = cBz v b j := fun j => by
          show (if e.2.2 < n.2.2 then _ else _ : Nat → Int32) j = _
          rw [if_neg (by omega), hf]
        have z2 : ∀ j, vD (mv n (wE u) P Q v) e.2.2 j = cBq v b j := fun j => by
          show (if e.2.2 < n.2.2 then _ else _ : Nat → Int64) j = _
          rw [if_neg (by omega), hf]
        have ht : t ≤ 2 := by
          rcases b with l | f
          · replace c2 : (Nat.beq t 1 || (Nat.ble t 2 && Nat.beq l.length m && l.all (inB (wE w) e.1 e.2.1))) = true := c2
            simp only [Bool.or_eq_true, Bool.and_eq_true] at c2
            rcases c2 with c2 | c2
            · have := Nat.eq_of_beq_eq_true c2; omega
            · exact Nat.le_of_ble_eq_true c2.1.1
          · replace c2 : (Nat.beq t 1 || (Nat.ble t 2 && decide (e.1 ≤ f.1) && decide (f.2.1 ≤ e.2.1))) = true := c2
            simp only [Bool.or_eq_true, Bool.and_eq_true] at c2
            rcases c2 with c2 | c2
            · have := Nat.eq_of_beq_eq_true c2; omega
            · exact Nat.le_of_ble_eq_true c2.1.1
        refine ⟨cB_ext (fun _ j _ => z1 j) (fun _ j _ => z2 j) (fun q _ _ => by omega), Nat.blt_eq.mp c1, fun ht1 j hj => ?_⟩
        rw [z1 j]
        rcases b with l | f
        · replace c2 : (Nat.beq t 1 || (Nat.ble t 2 && Nat.beq l.length m && l.all (inB (wE w) e.1 e.2.1))) = true := c2
          simp only [Bool.or_eq_true, Bool.and_eq_true] at c2
          rcases c2 with c2 | c2
          · exact absurd (Nat.eq_of_beq_eq_true c2) ht1
          · have hlen := Nat.eq_of_beq_eq_true c2.1.2
            have hj' : j < l.length := by omega
            show e.1 ≤ (cZ v (l.getD j _)).toInt ∧ (cZ v (l.getD j _)).toInt ≤ e.2.1
            rw [List.getD_eq_getElem?_getD, List.getElem?_eq_getElem hj']
            exact inB_ok hE (List.all_eq_true.mp c2.2 _ (List.getElem_mem hj'))
        · replace c2 : (Nat.beq t 1 || (Nat.ble t 2 && decide (e.1 ≤ f.1) && decide (f.2.1 ≤ e.2.1))) = true := c2
          simp only [Bool.or_eq_true, Bool.and_eq_true, decide_eq_true_eq] at c2
          rcases c2 with c2 | c2
          · exact absurd (Nat.eq_of_beq_eq_true c2) ht1
          · have := ho ht1 j hj
            show e.1 ≤ (vC v f.2.2 j).toInt ∧ (vC v f.2.2 j).toInt ≤ e.2.1
            omega
      · cases h
    · rw [if_neg hk] at h
      have hk : e.2.2 < n.2.2 := Nat.lt_of_not_le (fun q => hk (Nat.ble_eq_true_of_le q))
      rcases b with l | f
      · cases h
      · simp only [] at h
        split at h
        · rename_i hc
          simp only [Bool.and_eq_true, decide_eq_true_eq] at hc
          obtain ⟨⟨c1, c2⟩, c3⟩ := hc
          have c1 := Nat.eq_of_beq_eq_true c1
          have z1 : vC (mv n (wE u) P Q v) e.2.2 = vC v f.2.2 := by
            show (if e.2.2 < n.2.2 then _ else _ : Nat → Int32) = _
            rw [if_pos hk, c1]
          have z2 : vD (mv n (wE u) P Q v) e.2.2 = vD v f.2.2 := by
            show (if e.2.2 < n.2.2 then _ else _ : Nat → Int64) = _
            rw [if_pos hk, c1]
          refine ⟨cB_ext (fun _ j _ => congrFun z1 j) (fun _ j _ => congrFun z2 j) (fun _ j _ => rfl), Nat.lt_of_lt_of_le hk hm.2.2.1, fun ht1 j hj => ?_⟩
          have := ho ht1 j hj
          rw [z1, ← c2, ← c3]
          exact this
        · cases h
theorem mtC_ok (hm : MH n w u) (hP : ndp (P.map Prod.fst) = true) (hQ : ndp (Q.map Prod.fst) = true) (hE : okE v (wE w)) {c d : AC} {p : List (Nat × AV) × List (Nat × AB)} (h : mtC (wE w) (wE u) n (wL u) (wA u) c d = some p) (h1 : ∀ z ∈ p.1, z ∈ P) (h2 : ∀ z ∈ p.2, z ∈ Q) (hs : scC w c) (ho : okC v c) :
    cC (mv n (wE u) P Q v) dT d = cC v dT c ∧ scC u d ∧ okC (mv n (wE u) P Q v) d := by
  rcases c with ⟨t, m, b⟩ | ⟨ci, fs⟩
  · rcases d with ⟨t', m', b'⟩ | ⟨di, gs⟩
    · replace h : (if (Nat.beq t t' && Nat.beq m m') = true then mtB (wE w) (wE u) n (wL u) (wA u) t m b b' else none) = some p := h
      split at h
      · rename_i hc
        simp only [Bool.and_eq_true] at hc
        have c1 := Nat.eq_of_beq_eq_true hc.1
        have c2 := Nat.eq_of_beq_eq_true hc.2
        subst c1
        subst c2
        obtain ⟨g1, g2, g3⟩ := mtB_ok hm hP hQ hE h h1 h2 hs ho
        exact ⟨by show Sum.inl (dT t, m, cB _ t m b') = Sum.inl (dT t, m, cB v t m b); rw [g1], g2, g3⟩
      · cases h
    · cases h
  · rcases d with ⟨t', m', b'⟩ | ⟨di, gs⟩
    · cases h
    · replace h : (if Nat.beq ci di = true then (match mtL (wE w) (wE u) n (wL u) fs gs with
        | some P => some (P, [])
        | none => none) else none) = some p := h
      split at h
      · rename_i hc
        have c1 := Nat.eq_of_beq_eq_true hc
        subst c1
        cases hl : mtL (wE w) (wE u) n (wL u) fs gs with
        | none => rw [hl] at h; cases h
        | some y =>
          rw [hl] at h
          cases h
          obtain ⟨g1, g2⟩ := mtL_ok (Q := Q) hm hP hE hl h1 hs
          exact ⟨by show Sum.inr (ci, gs.map _) = Sum.inr (ci, fs.map _); rw [g1], g2, trivial⟩
      · cases h
/-- pairs keep within bounds -/
def pOk (E F : AE) (q : Nat × AV) : Prop := ∀ k, q.1 = 2 * k → ∃ e p, F[k]? = some e ∧ aBd E q.2 = some p ∧ e.1 ≤ p.1 ∧ p.2 ≤ e.2.1
theorem mtV_p {E F : AE} {L : Nat} {a b : AV} {p : List (Nat × AV)} (h : mtV E F n L a b = some p) : ∀ q ∈ p, pOk E F q := by
  rcases b with z | k | m | k | r | k
  · replace h : (if decide (aNm E a = .inl z) = true then some [] else none) = some p := h
    split at h
    · cases h; intro q hq; exact absurd hq List.not_mem_nil
    · cases h
  · replace h : (if Nat.ble n.1 k = true then (match aBd E a, F[k]? with
      | some p, some e => if (decide (e.1 ≤ p.1) && decide (p.2 ≤ e.2.1)) = true then some [(2 * k, a)] else none
      | _, _ => none) else if decide (aNm E a = aNm E (.inr (.inl k))) = true then some [] else none) = some p := h
    by_cases hk : Nat.ble n.1 k = true
    · rw [if_pos hk] at h
      cases ha : aBd E a with
      | none => rw [ha] at h; cases h
      | some p0 =>
        cases he : F[k]? with
        | none => rw [ha, he] at h; cases h
        | some e =>
          rw [ha, he] at h
          simp only [] at h
          split at h
          · rename_i hc
            simp only [Bool.and_eq_true, decide_eq_true_eq] at hc
            cases h
            intro q hq k' hk'
            rw [List.mem_singleton.mp hq] at hk' ⊢
            have : k = k' := by have : 2 * k = 2 * k' := hk'; omega
            subst this
            exact ⟨e, p0, he, ha, hc.1, hc.2⟩
          · cases h
    · rw [if_neg hk] at h
      split at h
      · cases h; intro q hq; exact absurd hq List.not_mem_nil
      · cases h
  · replace h : (if decide (a = .inr (.inr (.inl m))) = true then some [] else none) = some p := h
    split at h
    · cases h; intro q hq; exact absurd hq List.not_mem_nil
    · cases h
  · replace h : (if Nat.ble n.2.1 k = true then (if (aIsL a && Nat.blt k L) = true then some [(2 * k + 1, a)] else none) else if decide (a = .inr (.inr (.inr (.inl k)))) = true then some [] else none) = some p := h
    split at h
    · split at h
      · cases h
        intro q hq k' hk'
        rw [List.mem_singleton.mp hq] at hk'
        have : 2 * k + 1 = 2 * k' := hk'
        omega
      · cases h
    · split at h
      · cases h; intro q hq; exact absurd hq List.not_mem_nil
      · cases h
  · replace h : (if decide (a = .inr (.inr (.inr (.inr (.inl r))))) = true then some [] else none) = some p := h
    split at h
    · cases h; intro q hq; exact absurd hq List.not_mem_nil
    · cases h
  · replace h : (if decide (a = .inr (.inr (.inr (.inr (.inr k))))) = true then some [] else none) = some p := h
    split at h
    · cases h; intro q hq; exact absurd hq List.not_mem_nil
    · cases h
theorem mtL_p {E F : AE} {L : Nat} : ∀ {l q : List AV} {p : List (Nat × AV)}, mtL E F n L l q = some p → ∀ z ∈ p, pOk E F z
  | [], [], p, h, z, hz => by cases h; exact absurd hz List.not_mem_nil
  | [], _ :: _, p, h, _, _ => by cases h
  | _ :: _, [], p, h, _, _ => by cases h
  | a :: r, b :: q, p, h, z, hz => by
    replace h : (match mtV E F n L a b, mtL E F n L r q with
      | some x, some y => some (x ++ y)
      | _, _ => none) = some p := h
    cases h1 : mtV E F n L a b with
    | none => rw [h1] at h; cases h
    | some x =>
      cases h2 : mtL E F n L r q with
      | none => rw [h1, h2] at h; cases h
      | some y =>
        rw [h1, h2] at h
        cases h
        rcases List.mem_append.mp hz with e | e
        · exact mtV_p h1 z e
        · exact mtL_p h2 z e
theorem mtC_p {E F : AE} {L A : Nat} {c d : AC} {p : List (Nat × AV) × List (Nat × AB)} (h : mtC E F n L A c d = some p) : ∀ z ∈ p.1, pOk E F z := by
  have nil : ∀ z ∈ ([] : List (Nat × AV)), pOk E F z := fun z hz => absurd hz List.not_mem_nil
  unfold mtC at h
  split at h
  · split at h
    · split at h
      · rename_i hl
        cases h
        exact mtL_p hl
      · cases h
    · cases h
  · split at h
    · unfold mtB at h
      split at h
      · split at h
        · split at h
          · cases h; exact nil
          · cases h
        · split at h
          · split at h
            · cases h; exact nil
            · cases h
          · cases h
      · split at h
        · split at h
          · rename_i hl
            cases h
            exact mtL_p hl
          · cases h
        · split at h
          · split at h
            · rename_i hl
              cases h
              exact mtL_p hl
            · cases h
          · cases h
    · cases h
  · cases h
theorem mtH_p {x : ACx} {E F : AE} {L A : Nat} {g : AH} : ∀ {l : List (Nat × AC)} {p : List (Nat × AV) × List (Nat × AB)}, mtH x E F n L A g l = some p → ∀ z ∈ p.1, pOk E F z
  | [], p, h, z, hz => by cases h; exact absurd hz List.not_mem_nil
  | a :: r, p, h, z, hz => by
    replace h : (match mtC E F n L A a.2 (hGet (xB x) g a.1), mtH x E F n L A g r with
      | some a, some b => some (a.1 ++ b.1, a.2 ++ b.2)
      | _, _ => none) = some p := h
    cases h1 : mtC E F n L A a.2 (hGet (xB x) g a.1) with
    | none => rw [h1] at h; cases h
    | some y =>
      cases h2 : mtH x E F n L A g r with
      | none => rw [h1, h2] at h; cases h
      | some z' =>
        rw [h1, h2] at h
        cases h
        rcases List.mem_append.mp hz with e | e
        · exact mtC_p h1 z e
        · exact mtH_p h2 z e
theorem pF_mem : ∀ {P : List (Nat × AV)} {k : Nat} {a : AV}, pF P k = some a → (k, a) ∈ P
  | [], k, a, h => by cases h
  | q :: r, k, a, h => by
    replace h : (if q.1 = k then some q.2 else pF r k) = some a := h
    split at h
    · rename_i hc
      cases h
      rw [← hc]
      exact List.mem_cons_self
    · exact List.mem_cons_of_mem _ (pF_mem h)
theorem mtH_ok {x : ACx} {g : AH} : ∀ {l : List (Nat × AC)} {p : List (Nat × AV) × List (Nat × AB)}, mtH x (wE w) (wE u) n (wL u) (wA u) g l = some p → ∀ q ∈ l, ∃ r, mtC (wE w) (wE u) n (wL u) (wA u) q.2 (hGet (xB x) g q.1) = some r ∧ (∀ z ∈ r.1, z ∈ p.1) ∧ (∀ z ∈ r.2, z ∈ p.2)
  | [], p, _, q, hq => absurd hq List.not_mem_nil
  | a :: r, p, h, q, hq => by
    replace h : (match mtC (wE w) (wE u) n (wL u) (wA u) a.2 (hGet (xB x) g a.1), mtH x (wE w) (wE u) n (wL u) (wA u) g r with
      | some a, some b => some (a.1 ++ b.1, a.2 ++ b.2)
      | _, _ => none) = some p := h
    cases h1 : mtC (wE w) (wE u) n (wL u) (wA u) a.2 (hGet (xB x) g a.1) with
    | none => rw [h1] at h; cases h
    | some y =>
      cases h2 : mtH x (wE w) (wE u) n (wL u) (wA u) g r with
      | none => rw [h1, h2] at h; cases h
      | some z =>
        rw [h1, h2] at h
        cases h
        rcases List.mem_cons.mp hq with e | e
        · subst e
          exact ⟨y, h1, fun z hz => List.mem_append_left _ hz, fun z hz => List.mem_append_left _ hz⟩
        · obtain ⟨r', g1, g2, g3⟩ := mtH_ok h2 q e
          exact ⟨r', g1, fun z hz => List.mem_append_right _ (g2 z hz), fun z hz => List.mem_append_right _ (g3 z hz)⟩
theorem hFind_mem : ∀ {l : List (Nat × AC)} {i : Nat} {c : AC}, hFind l i = some c → (i, c) ∈ l
  | [], i, c, h => by cases h
  | (j, d) :: r, i, c, h => by
    replace h : (if Nat.beq j i = true then some d else hFind r i) = some c := h
    split at h
    · rename_i hc
      cases h
      rw [Nat.eq_of_beq_eq_true hc]
      exact List.mem_cons_self
    · exact List.mem_cons_of_mem _ (hFind_mem h)
theorem hFind_none : ∀ {l : List (Nat × AC)} {i : Nat}, hFind l i = none → ∀ q ∈ l, q.1 ≠ i
  | [], i, h, q, hq => absurd hq List.not_mem_nil
  | (j, d) :: r, i, h, q, hq => by
    replace h : (if Nat.beq j i = true then some d else hFind r i) = none := h
    split at h
    · cases h
    · rename_i hc
      rcases List.mem_cons.mp hq with e | e
      · subst e
        intro q
        exact hc (by rw [← q]; exact Nat.beq_refl _)
      · exact hFind_none h q e
/-- the main thing: w, as v has it, is u, as some v' has it -/
theorem mtA0_ok {x : ACx} {pl : List (AV × AV)} {wB : AW} (h : mtA0 x n w u pl = true) (hB : ∀ i, scC wB (xB x i)) (hBn : wle wB (fkw n (wH w).1 (wX w))) (hv : okW (xB x) v w) (hpl : ∀ p ∈ pl, scV w p.1) :
    ∃ v', agr (fkw n (wH w).1 (wX w)) v v' ∧ okW (xB x) v' u ∧ cW v' dT (xB x) (wH u) = cW v dT (xB x) (wH w) ∧ (∀ p ∈ pl, cv v' p.2 = cv v p.1 ∧ scV u p.2) ∧ wle (fkw n (wH w).1 (wX w)) u := by
  unfold mtA0 at h
  simp only [Bool.and_eq_true] at h
  obtain ⟨⟨⟨⟨⟨⟨⟨⟨⟨e1, e2⟩, e3⟩, e4⟩, e5⟩, e6⟩, e7⟩, e8⟩, e9⟩, e10⟩ := h
  obtain ⟨f1, f2, f3⟩ := leE_ok e1
  have f4 := leG_ok e2
  have e5 := Nat.le_of_ble_eq_true e5
  have e6 := Nat.le_of_ble_eq_true e6
  have e7 := Nat.eq_of_beq_eq_true e7
  have e8 := Nat.eq_of_beq_eq_true e8
  have hm : MH n w u := ⟨f2, e5, e6, e7, e8⟩
  cases hH : mtH x (wE w) (wE u) n (wL u) (wA u) (wH u) (wH w).2 with
  | none => rw [hH] at e10; cases e10
  | some a =>
    cases hL : mtL (wE w) (wE u) n (wL u) (pl.map Prod.fst) (pl.map Prod.snd) with
    | none => rw [hH, hL] at e10; cases e10
    | some b =>
      rw [hH, hL] at e10
      simp only [Bool.and_eq_true] at e10
      obtain ⟨hP, hQ⟩ := e10
      have hle : wle (fkw n (wH w).1 (wX w)) u := ⟨by rw [fkw_len]; exact f2, Nat.le_of_eq e8, e5, e6, Nat.le_of_eq e7⟩
      have hag : agr (fkw n (wH w).1 (wX w)) v (mv n (wE u) (a.1 ++ b) a.2 v) := mv_agr
      have hcell : ∀ i, i < (wH w).1 → cC (mv n (wE u) (a.1 ++ b) a.2 v) dT (hGet (xB x) (wH u) i) = cC v dT (hGet (xB x) (wH w) i) ∧ scC u (hGet (xB x) (wH u) i) ∧ okC (mv n (wE u) (a.1 ++ b) a.2 v) (hGet (xB x) (wH u) i) := by
        intro i hi
        cases hf : hFind (wH w).2 i with
        | some c =>
          have hg : hGet (xB x) (wH w) i = c := by unfold hGet; rw [hf]
          obtain ⟨r, r1, r2, r3⟩ := mtH_ok hH (i, c) (hFind_mem hf)
          have q1 := hv.2.2.1 i hi
          have q2 := hv.2.1 i hi
          rw [hg] at q1 q2 ⊢
          exact mtC_ok hm hP hQ hv.1 r1 (fun z hz => List.mem_append_left _ (r2 z hz)) r3 q1 q2
        | none =>
          have hg : hGet (xB x) (wH w) i = xB x i := by unfold hGet; rw [hf]
          have hg2 : hGet (xB x) (wH u) i = xB x i := by
            cases hf2 : hFind (wH u).2 i with
            | none => unfold hGet; rw [hf2]
            | some d =>
              have := List.all_eq_true.mp e9 (i, d) (hFind_mem hf2)
              obtain ⟨q, hq, hqe⟩ := List.any_eq_true.mp this
              exact absurd (Nat.eq_of_beq_eq_true hqe) (hFind_none hf q hq)
          rw [hg, hg2]
          have hs1 : scC (fkw n (wH w).1 (wX w)) (xB x i) := scC_mono hBn (hB i)
          exact ⟨(cC_agr hag hs1).symm, scC_mono hle hs1, okC_agr hag hs1 (by have := hv.2.1 i hi; rw [hg] at this; exact this)⟩
      have hpl2 := mtL_ok (Q := a.2) hm hP hv.1 hL (fun z hz => List.mem_append_right _ hz) (fun z hz => by
        obtain ⟨p, hp, rfl⟩ := List.mem_map.mp hz
        exact hpl p hp)
      refine ⟨_, hag, ⟨fun k e he => ?_, fun i hi => (hcell i (by rw [e8]; exact hi)).2.2, fun i hi => (hcell i (by rw [e8]; exact hi)).2.1, fun k e he => ?_⟩, ?_, ?_, hle⟩
      · by_cases hk : k < n.1
        · obtain ⟨p, q, g1, g2, g3, g4, g5⟩ := f3 k hk
          rw [g2] at he
          cases he
          have r1 := hv.1 k p g1
          have r2 := hv.2.2.2 k p g1
          show _ ≤ (if k < n.1 then _ else _ : Int32).toInt ∧ (if k < n.1 then _ else _ : Int32).toInt ≤ _ ∧ (if k < n.1 then _ else _ : Int32).toInt = (if _ < n.1 then _ else _ : Int32).toInt + _
          rw [if_pos hk, g5, if_pos (by omega)]
          exact ⟨by omega, by omega, r1.2.2⟩
        · have he' : ((wE u).drop n.1)[k - n.1]? = some e := by
            rw [List.getElem?_drop, show n.1 + (k - n.1) = k by omega]
            exact he
          obtain ⟨g1, g2, g3, g4⟩ := f4 _ _ he'
          have hbase : e.2.2.1 = k := by omega
          rw [hbase, g2]
          refine (fun q => ⟨q.1, q.2, (Int.add_zero _).symm⟩) (?_ : _ ∧ _)
          show e.1 ≤ (if k < n.1 then _ else _ : Int32).toInt ∧ (if k < n.1 then _ else _ : Int32).toInt ≤ e.2.1
          rw [if_neg hk]
          cases hp : pF (a.1 ++ b) (2 * k) with
          | none =>
            simp only []
            rw [List.getD_eq_getElem?_getD, he]
            show e.1 ≤ (Int32.ofInt e.1).toInt ∧ (Int32.ofInt e.1).toInt ≤ _
            rw [z_in g4]
            omega
          | some c =>
            simp only []
            have hpo : pOk (wE w) (wE u) (2 * k, c) := by
              rcases List.mem_append.mp (pF_mem hp) with q | q
              · exact mtH_p hH _ q
              · exact mtL_p hL _ q
            obtain ⟨e', p', q1, q2, q3, q4⟩ := hpo k rfl
            rw [he] at q1
            cases q1
            have := aBd_ok hv.1 q2
            simp only [] at this
            omega
      · by_cases hk : k < n.1
        · obtain ⟨p, q, g1, g2, g3, g4, g5⟩ := f3 k hk
          rw [g2] at he
          cases he
          rw [g5]
          exact hv.2.2.2 k p g1
        · have he' : ((wE u).drop n.1)[k - n.1]? = some e := by
            rw [List.getElem?_drop, show n.1 + (k - n.1) = k by omega]
            exact he
          have := (f4 _ _ he').1
          omega
      · unfold cW
        rw [← e8]
        apply List.map_congr_left
        intro i hi
        rw [(hcell i (List.mem_range.mp hi)).1]
        rfl
      · intro p hp
        obtain ⟨j, hj⟩ := List.mem_iff_getElem?.mp hp
        have q := congrArg (fun l => l[j]?) hpl2.1
        simp only [List.getElem?_map, hj, Option.map_some] at q
        exact ⟨Option.some.inj q, hpl2.2 _ (List.mem_map_of_mem (f := Prod.snd) hp)⟩
theorem tch_get (B : Nat → AC) (m : Nat) : ∀ (us g : List (Nat × AC)) (i : Nat), hGet B (m, tch B g us) i = hGet B (m, g) i
  | [], g, i => rfl
  | q :: r, g, i => by
    show hGet B (m, if g.any (fun p => Nat.beq p.1 q.1) = true then tch B g r else tch B ((q.1, B q.1) :: g) r) i = _
    by_cases h : g.any (fun p => Nat.beq p.1 q.1) = true
    · rw [if_pos h]
      exact tch_get B m r g i
    · rw [if_neg h, tch_get B m r _ i]
      unfold hGet
      show (match (if Nat.beq q.1 i = true then some (B q.1) else hFind g i) with | some c => c | none => B i) = _
      by_cases e : Nat.beq q.1 i = true
      · rw [if_pos e]
        have e1 := Nat.eq_of_beq_eq_true e
        subst e1
        cases hf : hFind g q.1 with
        | none => rfl
        | some c =>
          exact absurd (List.any_eq_true.mpr ⟨(q.1, c), hFind_mem hf, Nat.beq_refl _⟩) h
      · rw [if_neg e]
        rfl
/-- the same, cells of u's named first -/
theorem mtA_ok {x : ACx} {pl : List (AV × AV)} {wB : AW} (h : mtA x n w u pl = true) (hB : ∀ i, scC wB (xB x i)) (hBn : wle wB (fkw n (wH w).1 (wX w))) (hv : okW (xB x) v w) (hpl : ∀ p ∈ pl, scV w p.1) :
    ∃ v', agr (fkw n (wH w).1 (wX w)) v v' ∧ okW (xB x) v' u ∧ cW v' dT (xB x) (wH u) = cW v dT (xB x) (wH w) ∧ (∀ p ∈ pl, cv v' p.2 = cv v p.1 ∧ scV u p.2) ∧ wle (fkw n (wH w).1 (wX w)) u := by
  have hg := tch_get (xB x) (wH w).1 (wH u).2 (wH w).2
  have hle : wle w (wHp w ((wH w).1, tch (xB x) (wH w).2 (wH u).2)) := ⟨Nat.le_refl _, Nat.le_refl _, Nat.le_refl _, Nat.le_refl _, Nat.le_refl _⟩
  have hw : okW (xB x) v (wHp w ((wH w).1, tch (xB x) (wH w).2 (wH u).2)) := by
    refine ⟨hv.1, fun i hi => ?_, fun i hi => ?_, hv.2.2.2⟩
    · show okC v (hGet (xB x) ((wH w).1, tch (xB x) (wH w).2 (wH u).2) i)
      rw [hg]
      exact hv.2.1 i hi
    · show scC _ (hGet (xB x) ((wH w).1, tch (xB x) (wH w).2 (wH u).2) i)
      rw [hg]
      exact scC_mono hle (hv.2.2.1 i hi)
  obtain ⟨v', a1, a2, a3, a4, a5⟩ := mtA0_ok (dT := dT) h hB hBn hw (fun p hp => scV_mono hle (hpl p hp))
  refine ⟨v', a1, a2, a3.trans ?_, a4, a5⟩
  unfold cW
  apply List.map_congr_left
  intro i hi
  show (vA v i, cC v dT (hGet (xB x) ((wH w).1, tch (xB x) (wH w).2 (wH u).2) i)) = _
  rw [hg]
end MT
