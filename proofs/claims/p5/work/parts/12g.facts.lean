/-! Methods' facts by checks; handlers; the program as a whole -/
/-- a property of all entries of a table, piece by piece -/
def Q3 {α : Type} (f : Nat → α → Bool) (l : List (List (List α))) : Prop := ∀ (A B : Nat) (a : List (List α)) (b : List α), l[A]? = some a → a[B]? = some b → b.zipIdx.all (fun o => f (256 * A + 16 * B + o.2) o.1) = true
theorem Q3_ok {α : Type} {f : Nat → α → Bool} {l : List (List (List α))} (h : Q3 f l) {i : Nat} {y : α} (hy : t3 l i = some y) : f i y = true := by
  unfold t3 at hy
  cases h1 : l[i / 256]? with
  | none => rw [h1] at hy; cases hy
  | some a =>
    rw [h1] at hy
    simp only [] at hy
    cases h2 : a[i / 16 % 16]? with
    | none => rw [h2] at hy; cases hy
    | some b =>
      rw [h2] at hy
      simp only [] at hy
      have m := List.all_eq_true.mp (h _ _ a b h1 h2) (y, i % 16) (List.mk_mem_zipIdx_iff_getElem?.mpr hy)
      have e : 256 * (i / 256) + 16 * (i / 16 % 16) + i % 16 = i := by omega
      simp only [e] at m
      exact m
def mfB (a : Nat) (p : Nat × List (Nat × Nat)) : Bool :=
  let ps := p.2
  let c0 := chkW (ps.getD 1 (99, 99)) (.initialized (yA a).cls) && decide ((yA a).cls ≠ "java/lang/invoke/MethodHandle") && decide ((yA a).cls ≠ "java/lang/invoke/VarHandle")
  match p.1 with
  | 0 => c0 && decide (hhA a = []) && chkW (ps.getD 2 (99, 99)) (.instanceMethod (yA a)) && chkW (ps.getD 3 (99, 99)) (.selects (yA a).cls (yA a) (yA a)) && decide ((parseMethodDescriptor (yA a).desc).map (fun d => d.parameters.length) = some (mAr (miB a) - 1)) && Nat.ble 1 (mAr (miB a)) && Nat.ble (mCl (miB a)) 12 && decide ((nCl (mCl (miB a))).1 = (yA a).cls)
  | 1 => c0 && decide (hhA a = []) && chkW (ps.getD 2 (99, 99)) (.static (yA a)) && decide ((parseMethodDescriptor (yA a).desc).map (fun d => d.parameters.length) = some (mAr (miB a)))
  | 6 => c0 && decide (hhA a ≠ []) && chkW (ps.getD 2 (99, 99)) (.static (yA a)) && decide ((parseMethodDescriptor (yA a).desc).map (fun d => d.parameters.length) = some (mAr (miB a)))
  | 2 => c0 && decide (hhA a = []) && decide (rtA a = none) && decide ((yA a).name = "<init>") && chkW (ps.getD 2 (99, 99)) (.instanceMethod (yA a)) && decide ((parseMethodDescriptor (yA a).desc).map (fun d => d.parameters.length) = some (mAr (miB a) - 1)) && Nat.ble 1 (mAr (miB a))
  | _ => true
def mkO (l : List (List (List (Nat × List (Nat × Nat))))) (a : Nat) : Nat := match t3 l a with
  | some p => p.1
  | none => 9
/-- a property of all entries of a table, as a proposition -/
def P3 {α : Type} (f : Nat → α → Prop) (l : List (List (List α))) : Prop := ∀ (A B : Nat) (a : List (List α)) (b : List α), l[A]? = some a → a[B]? = some b → ∀ (i : Nat) (y : α), b[i]? = some y → f (256 * A + 16 * B + i) y
theorem P3_ok {α : Type} {f : Nat → α → Prop} {l : List (List (List α))} (h : P3 f l) {i : Nat} {y : α} (hy : t3 l i = some y) : f i y := by
  unfold t3 at hy
  cases h1 : l[i / 256]? with
  | none => rw [h1] at hy; cases hy
  | some a =>
    rw [h1] at hy
    simp only [] at hy
    cases h2 : a[i / 16 % 16]? with
    | none => rw [h2] at hy; cases hy
    | some b =>
      rw [h2] at hy
      simp only [] at hy
      have m := h _ _ a b h1 h2 _ y hy
      have e : 256 * (i / 256) + 16 * (i / 16 % 16) + i % 16 = i := by omega
      rw [e] at m
      exact m
/-- a method's own word, where it is called -/
def cwP (a : Nat) (p : Nat × List (Nat × Nat)) : Prop := p.1 ≠ 9 → cdX cx0 yA byA rtA hhA a ∈ gT
theorem cw_of {p : Nat × Nat} {w : Cond} (h : tabAt p = some w) (g : goodWord w = true) : w ∈ gT := gT_of (tabAt_in h) g
theorem mth_of {l : List (List (List (Nat × List (Nat × Nat))))} (hcl : clsX) (hcw : P3 cwP l) (h : Q3 mfB l) : mthX cx0 (mkO l) := by
  intro a
  cases h1 : t3 l a with
  | none =>
    have e : mkO l a = 9 := by unfold mkO; rw [h1]
    rw [e]
    exact ⟨fun q => absurd q (by decide), fun q => absurd q (by decide), fun q => absurd q (by decide), fun q => absurd q (by decide)⟩
  | some p =>
    obtain ⟨kd, ps⟩ := p
    have e : mkO l a = kd := by unfold mkO; rw [h1]
    have m := Q3_ok h h1
    have m1 : kd ≠ 9 → cdX cx0 yA byA rtA hhA a ∈ gT := P3_ok hcw h1
    rw [e]
    refine ⟨fun q => ?_, fun q => ?_, fun q => ?_, fun q => ?_⟩
    · subst q
      simp only [mfB, Bool.and_eq_true, decide_eq_true_eq] at m
      obtain ⟨⟨⟨⟨⟨⟨⟨⟨⟨m2, m3⟩, m4⟩, m5⟩, m6⟩, m7⟩, m8⟩, m9⟩, m10⟩, m11⟩ := m
      have hc := (hcl _ (Nat.le_of_ble_eq_true m10)).1.1
      rw [m11] at hc
      exact ⟨m5, chkW_ok m6, chkW_ok m7, mAr (miB a) - 1, _, _, ⟨m1 (by decide), chkW_ok m2, m3, m4, m8⟩, (Nat.sub_add_cancel (Nat.le_of_ble_eq_true m9)).symm, hc⟩
    · subst q
      simp only [mfB, Bool.and_eq_true, decide_eq_true_eq] at m
      obtain ⟨⟨⟨⟨⟨m2, m3⟩, m4⟩, m5⟩, m6⟩, m7⟩ := m
      exact ⟨m5, chkW_ok m6, m1 (by decide), chkW_ok m2, m3, m4, m7⟩
    · subst q
      simp only [mfB, Bool.and_eq_true, decide_eq_true_eq] at m
      obtain ⟨⟨⟨⟨⟨m2, m3⟩, m4⟩, m5⟩, m6⟩, m7⟩ := m
      exact ⟨m5, chkW_ok m6, m1 (by decide), chkW_ok m2, m3, m4, m7⟩
    · subst q
      simp only [mfB, Bool.and_eq_true, decide_eq_true_eq] at m
      obtain ⟨⟨⟨⟨⟨⟨⟨⟨m2, m3⟩, m4⟩, m5⟩, m6⟩, m7⟩, m8⟩, m9⟩, m10⟩ := m
      exact ⟨m5, m6, m7, chkW_ok m8, mAr (miB a) - 1, ⟨m1 (by decide), chkW_ok m2, m3, m4, m9⟩, (Nat.sub_add_cancel (Nat.le_of_ble_eq_true m10)).symm⟩
/-- each exception is of its own class; no other's -/
def xcX : Prop := ∀ a, Cond.castable (exN a) (exN a) ∈ lw_tbl
def ncX (s : State) : Prop := ∀ a b, a ≤ 2 → b ≤ 2 → a ≠ b → va_Nc (exN a) (exN b) s
theorem exN_min (e : Nat) : exN (min e 2) = exN e := by
  match e with
  | 0 => rfl
  | 1 => rfl
  | n + 2 =>
    have : min (n + 2) 2 = 2 := Nat.min_eq_right (by omega)
    rw [this]
    rfl
def hdB (es : List ((Nat × Nat × Nat × Nat) × Nat)) (lk : List (Nat × (Nat × Nat × Nat) × (Nat × Nat))) : Bool := es.all (fun q => lkIs lk q.1.2.2.2 8 q.2 0 && !(Nat.beq q.1.2.2.2 0) && Nat.ble q.2 2)
def enT (q : (Nat × Nat × Nat × Nat) × Nat) : ExceptionTableEntry := ⟨q.1.1, q.1.2.1, q.1.2.2.1, q.1.2.2.2⟩
theorem cov_enT (q : (Nat × Nat × Nat × Nat) × Nat) (pc : Nat) : covers (enT q) pc = (Nat.ble q.1.1 pc && Nat.blt pc q.1.2.1) := by
  show (decide (q.1.1 ≤ pc) && decide (pc < q.1.2.1)) = _
  have e1 : decide (q.1.1 ≤ pc) = Nat.ble q.1.1 pc := Bool.eq_iff_iff.mpr ⟨fun h => Nat.ble_eq_true_of_le (of_decide_eq_true h), fun h => decide_eq_true (Nat.le_of_ble_eq_true h)⟩
  have e2 : decide (pc < q.1.2.1) = Nat.blt pc q.1.2.1 := Bool.eq_iff_iff.mpr ⟨fun h => Nat.blt_eq.mpr (of_decide_eq_true h), fun h => decide_eq_true (Nat.blt_eq.mp h)⟩
  rw [e1, e2]
theorem exG_none : ∀ {es : List ((Nat × Nat × Nat × Nat) × Nat)} {pc e : Nat}, exG es pc e = none → ∀ q ∈ es, covers (enT q) pc = false ∨ q.2 ≠ min e 2
  | [], _, _, _, q, h => absurd h List.not_mem_nil
  | p :: r, pc, e, h, q, hq => by
    replace h : (if (Nat.ble p.1.1 pc && Nat.blt pc p.1.2.1 && Nat.beq p.2 (min e 2)) = true then some p.1.2.2.1 else exG r pc e) = none := h
    split at h
    · cases h
    · rename_i hc
      rcases List.mem_cons.mp hq with e1 | e1
      · subst e1
        rw [cov_enT]
        by_cases hx : q.2 = min e 2
        · left
          cases hb : (Nat.ble q.1.1 pc && Nat.blt pc q.1.2.1) with
          | false => rfl
          | true => exact absurd (by rw [hb, hx]; simp) hc
        · exact Or.inr hx
      · exact exG_none h q e1
theorem exG_some : ∀ {es : List ((Nat × Nat × Nat × Nat) × Nat)} {pc e h : Nat}, exG es pc e = some h → ∃ pre q suf, es = pre ++ q :: suf ∧ h = q.1.2.2.1 ∧ covers (enT q) pc = true ∧ q.2 = min e 2 ∧ ∀ p ∈ pre, covers (enT p) pc = false ∨ p.2 ≠ min e 2
  | [], _, _, _, h => by cases h
  | p :: r, pc, e, h', h => by
    replace h : (if (Nat.ble p.1.1 pc && Nat.blt pc p.1.2.1 && Nat.beq p.2 (min e 2)) = true then some p.1.2.2.1 else exG r pc e) = some h' := h
    split at h
    · rename_i hc
      cases h
      simp only [Bool.and_eq_true] at hc
      exact ⟨[], p, r, rfl, rfl, by rw [cov_enT, hc.1.1, hc.1.2]; rfl, Nat.eq_of_beq_eq_true hc.2, fun q hq => absurd hq List.not_mem_nil⟩
    · rename_i hc
      obtain ⟨pre, q, suf, e1, e2, e3, e4, e5⟩ := exG_some h
      refine ⟨p :: pre, q, suf, by rw [e1]; rfl, e2, e3, e4, fun z hz => ?_⟩
      rcases List.mem_cons.mp hz with q1 | q1
      · subst q1
        rw [cov_enT]
        by_cases hx : z.2 = min e 2
        · left
          cases hb : (Nat.ble z.1.1 pc && Nat.blt pc z.1.2.1) with
          | false => rfl
          | true => exact absurd (by rw [hb, hx]; simp) hc
        · exact Or.inr hx
      · exact e5 z q1
theorem exT_ok {k : kx_T} {x : ACx} {mn : Nat} {a0 : Array Value} {es : List ((Nat × Nat × Nat × Nat) × Nat)} {lk : List (Nat × (Nat × Nat × Nat) × (Nat × Nat))} (hXc : xcX) (C : kx_ok k) (hNc : ncX (kS0 k)) (Z : z0_ok (kL k) (kS0 k) a0 (kD k) (kTy k)) (hlk : lk.all (fun e => chkW e.2.2 (lkW (kOwn k) e.1 e.2.1)) = true) (hd : hdB es lk = true) (he : ∀ pc e, xEx x mn pc e = exG es pc e) (ht : (kC k).exceptionTable.toList = es.map enT) (pc : Nat) : exX k x mn pc := by
  have ent : ∀ q ∈ es, q.1.2.2.2 ≠ 0 ∧ q.2 ≤ 2 ∧ Cond.classLink (kOwn k) q.1.2.2.2 (exN q.2) ∈ gT := by
    intro q hq
    have := List.all_eq_true.mp hd q hq
    simp only [Bool.and_eq_true, Bool.not_eq_true'] at this
    refine ⟨fun h0 => ?_, Nat.le_of_ble_eq_true this.2, lkF_ok hlk (lkIs_ok this.1.1)⟩
    rw [h0] at this
    exact absurd this.1.2 (by decide)
  have pass : ∀ e, ∀ q ∈ es, (covers (enT q) pc = false ∨ q.2 ≠ min e 2) → covers (enT q) pc = false ∨ ((enT q).catchType ≠ 0 ∧ ∃ nm : String, Cond.classLink (kOwn k) (enT q).catchType nm ∈ gT ∧ va_Nc (exN e) nm (kS k)) := by
    intro e q hq h
    rcases h with h | h
    · exact Or.inl h
    · obtain ⟨h1, h2, h3⟩ := ent q hq
      refine Or.inr ⟨h1, exN q.2, h3, ?_⟩
      have := hNc (min e 2) q.2 (Nat.min_le_right _ _) h2 (Ne.symm h)
      rw [exN_min] at this
      exact va_Nc.moved C.2.2.2.2.1.alike this
  intro e
  constructor
  · intro hn z hz
    rw [ht] at hz
    obtain ⟨q, hq, rfl⟩ := List.mem_map.mp hz
    rw [he] at hn
    exact pass e q hq (exG_none hn q hq)
  · intro h hs lv st ws ce sl hg
    rw [he] at hs
    obtain ⟨pre, q, suf, e1, e2, e3, e4, e5⟩ := exG_some hs
    have hq : q ∈ es := by rw [e1]; exact List.mem_append_right _ List.mem_cons_self
    obtain ⟨h1, h2, h3⟩ := ent q hq
    refine x_catch C Z (pre.map enT) (enT q) (suf.map enT) (by rw [ht, e1, List.map_append, List.map_cons]) (fun z hz => ?_) e3 h1 h3 ?_ (fun a => ?_)
    · obtain ⟨p, hp, rfl⟩ := List.mem_map.mp hz
      exact pass e p (by rw [e1]; exact List.mem_append_left _ hp) (e5 p hp)
    · rw [e4, exN_min]
      exact hXc e
    · rw [e2] at hg
      exact hg a
/-- the rows of a method, and what goes with them -/
def rtB (mn : Nat) : Bool := match mRt (miB mn) with
  | 0 => decide (rtA mn = none)
  | 1 => decide (rtA mn = some .int)
  | 2 => decide (rtA mn = some .boolean)
  | 3 => decide (rtA mn = some .long)
  | _ => true
theorem rtB_ok {mn : Nat} (h : rtB mn = true) : (mRt (miB mn) = 0 → rtA mn = none) ∧ (mRt (miB mn) = 1 → rtA mn = some .int) ∧ (mRt (miB mn) = 2 → rtA mn = some .boolean) ∧ (mRt (miB mn) = 3 → rtA mn = some .long) := by
  unfold rtB at h
  refine ⟨fun e => ?_, fun e => ?_, fun e => ?_, fun e => ?_⟩ <;> (rw [e] at h; exact of_decide_eq_true h)
