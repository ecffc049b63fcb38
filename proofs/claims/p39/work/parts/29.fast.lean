/-! Quick rows: a call, a write, a bound, a list of locals by places -/
def pq_nt {α : Type} : List α → Nat → Option α
  | [], _ => none
  | x :: _, 0 => some x
  | _ :: r, n + 1 => pq_nt r n
theorem pq_mem {α : Type} {a : α} : ∀ {l : List α} {n : Nat}, pq_nt l n = some a → a ∈ l
  | x :: _, 0, h => by cases h; exact List.Mem.head _
  | _ :: r, n + 1, h => List.Mem.tail _ (pq_mem (l := r) (n := n) h)
def pq_l {α : Type} (l : List α) : List Nat → List α
  | [] => []
  | n :: r => match pq_nt l n with
    | some x => x :: pq_l l r
    | none => pq_l l r
theorem pq_sub {α : Type} {l : List α} : ∀ {ix : List Nat} {q : α}, q ∈ pq_l l ix → q ∈ l
  | [], q, h => absurd h List.not_mem_nil
  | n :: r, q, h => by
    unfold pq_l at h
    cases e : pq_nt l n with
    | none => rw [e] at h; exact pq_sub h
    | some x =>
      rw [e] at h
      cases h with
      | head => exact pq_mem e
      | tail _ h => exact pq_sub h
theorem WS_pq {k : kx_T} {pc : Nat} {lv : List (Nat × Value)} (ix : List Nat) {lv' : List (Nat × Value)} {st : List Value} {ws : va_W} {ce sl : Nat} (e : pq_l lv ix = lv') (h : WS k pc lv' st ws ce sl) : WS k pc lv st ws ce sl := WS_lv (fun q hq => pq_sub (ix := ix) (by rw [e]; exact hq)) h
theorem wd_gen {k : kx_T} {pc : Nat} {lv : List (Nat × Value)} {st : List Value} {A : Nat → Nat} {dT : Nat → ClassId} {S : PS} {ce sl : Nat} (g : ∀ t, t = S → WS k pc lv st (Wd A dT t) ce sl) : WS k pc lv st (Wd A dT S) ce sl := g S rfl
theorem ds_gen {l : Launch} {s0 : State} {D : va_G} {A : Nat → Nat} {dT : Nat → ClassId} {mn : Nat} {rm : Room} {L M : List Nat} {To T : TT} {Q : mb_O → PS → Prop} {pc : Nat} {lv : List (Nat × Value)} {st : List Value} {S : PS} (g : ∀ t, t = S → DS l s0 D A dT mn rm L M To Q T pc lv st t) : DS l s0 D A dT mn rm L M To Q T pc lv st S := g S rfl
theorem eqB {t S : PS} (h : t = S) (x : Bd S) : Bd t := by rw [h]; exact x
theorem eqF {L M : List Nat} {s t S : PS} (h : t = S) (x : Fm L M s S) : Fm L M s t := by rw [h]; exact x
theorem eqI {t S : PS} {q : Nat} {e : Int} (h : t = S) (x : iI S q = e) : iI t q = e := by rw [h]; exact x
theorem eqC {t S : PS} {a i : Nat} {e : Int} (h : t = S) (x : iC S a i = e) : iC t a i = e := by rw [h]; exact x
theorem c518_ok {c : Nat} (h : Nat.ble (c + 1) 518 = true) : c < 518 := Nat.le_of_ble_eq_true h
theorem cbig_ok {c : Nat} (h : Nat.ble (c + 1) 2147483648 = true) : c < 2147483648 := Nat.le_of_ble_eq_true h
def rmB (cn m0 : Nat) : Bool := Nat.ble ((rmN cn).frames + 1) (rmN m0).frames && (Nat.ble (8 + (mNL (miB cn) + 11) + (rmN cn).locals) (rmN m0).locals && (Nat.beq (rmN cn).cells 0 && Nat.beq (rmN cn).slots 0))
theorem rmb_ok {k : kx_T} {cn m0 : Nat} (e : kR k = rmN m0) (h : rmB cn m0 = true) : rmK k cn (rmN cn) 0 0 ∧ (rmN cn).cells = 0 ∧ (rmN cn).slots = 0 := by
  unfold rmB at h
  rw [Bool.and_eq_true, Bool.and_eq_true, Bool.and_eq_true] at h
  obtain ⟨h1, h2, h3, h4⟩ := h
  have c := Nat.eq_of_beq_eq_true h3
  have d := Nat.eq_of_beq_eq_true h4
  exact ⟨⟨by rw [e]; exact Nat.le_of_ble_eq_true h1, by rw [e]; exact Nat.le_of_ble_eq_true h2, by rw [c]; exact Nat.zero_le _, by rw [d]; exact Nat.zero_le _⟩, c, d⟩
def inL_ (a : Nat) : List Nat → Bool
  | [] => false
  | x :: r => Nat.beq a x || inL_ a r
def subL_ : List Nat → List Nat → Bool
  | [], _ => true
  | x :: r, l => inL_ x l && subL_ r l
theorem inl_ok {a : Nat} : ∀ {l : List Nat}, inL_ a l = true → a ∈ l
  | x :: r, h => by
    unfold inL_ at h
    rw [Bool.or_eq_true] at h
    rcases h with h | h
    · rw [Nat.eq_of_beq_eq_true h]; exact List.Mem.head _
    · exact List.Mem.tail _ (inl_ok h)
theorem inl_no {a : Nat} : ∀ {l : List Nat}, inL_ a l = false → a ∉ l
  | [], _ => List.not_mem_nil
  | x :: r, h => by
    unfold inL_ at h
    rw [Bool.or_eq_false_iff] at h
    intro q
    cases q with
    | head => rw [Nat.beq_refl] at h; exact absurd h.1 (by decide)
    | tail _ q => exact inl_no h.2 q
theorem subl_ok : ∀ {l m : List Nat}, subL_ l m = true → ∀ k ∈ l, k ∈ m
  | [], _, _, k, hk => absurd hk List.not_mem_nil
  | x :: r, m, h, k, hk => by
    unfold subL_ at h
    rw [Bool.and_eq_true] at h
    cases hk with
    | head => exact inl_ok h.1
    | tail _ q => exact subl_ok h.2 k q
theorem fm_tq {L M L' M' : List Nat} {s t u : PS} (h : Fm L M s t) (g : Fm L' M' t u) (h1 : subL_ L' L = true) (h2 : subL_ M' M = true) : Fm L M s u := ⟨fun k hk => (g.1 k (fun q => hk (subl_ok h1 k q))).trans (h.1 k hk), fun a ha => (g.2.1 a (fun q => ha (subl_ok h2 a q))).trans (h.2.1 a ha), g.2.2.1.trans h.2.2.1, fl_ts h.2.2.2 g.2.2.2 (subl_ok h1) (subl_ok h2)⟩
theorem fm_iq {L M : List Nat} {s t : PS} {k : Nat} (F : Fm L M s t) (h : inL_ k L = false) : iI t k = iI s k := congrArg Int32.toInt (F.1 k (inl_no h))
section QK
variable {k : kx_T} {mn pc : Nat} {dT : Nat → ClassId} {lv : List (Nat × Value)} {st : List Value} {b : Nat} {z : Int} {A : Nat → Nat} {s : PS} {l : Launch} {s0 : State} {D : va_G}
theorem zcV_i0 (X : AX k mn dT) {m0 : Nat} (E : kL k = l ∧ kS0 k = s0 ∧ kD k = D ∧ kR k = rmN m0) (c : Nat) {idx cn : Nat} {fs : List AV} {As : List Value} {L M : List Nat} {P : Int → PS → Prop} (h : cdA mn pc = some (.invokevirtual idx, 3, cn, b, z)) (hn : mAr (miB cn) = As.length + 1) (hc : Nat.ble (c + 1) 518 = true) (hb : bsS c = .inr (mCl (miB cn), fs)) (hM : CT l s0 D A dT cn (rmN cn) (.ref (A c) :: As) s (fun o t => Bd t ∧ Fm L M s t ∧ ∃ e, o = .inl (some (.int (Int32.ofInt e))) ∧ rng e ∧ P e t)) (hr : rmB cn m0 = true) (hw : (st.map fun v => v.category).sum ≤ 8) (g : ∀ (t : PS) (e : Int), Bd t → Fm L M s t → rng e → P e t → WS k (pc + 3) lv (.int (Int32.ofInt e) :: st) (Wd A dT t) 0 0) : WS k pc lv (As.reverse ++ .ref (A c) :: st) (Wd A dT s) 0 0 := by
  obtain ⟨r, c1, d1⟩ := rmb_ok E.2.2.2 hr
  refine z_callV X c (rm := rmN cn) (st := st) h hn (c518_ok hc) hb (by rw [E.1, E.2.1, E.2.2.1]; exact hM) r hw (fun vv t hq => ?_) (fun ee t hq => ?_)
  · obtain ⟨I, F, e, hv, hr, hp⟩ := hq
    cases hv
    rw [c1, d1]
    exact g t e I F hr hp
  · obtain ⟨I, F, e, hv, hr, hp⟩ := hq
    cases hv
theorem zcV_i1 (X : AX k mn dT) {m0 : Nat} (E : kL k = l ∧ kS0 k = s0 ∧ kD k = D ∧ kR k = rmN m0) (c : Nat) {idx cn : Nat} {fs : List AV} {As : List Value} {L M : List Nat} {J0 : PS → Prop} {P : Int → PS → Prop} (h : cdA mn pc = some (.invokevirtual idx, 3, cn, b, z)) (hn : mAr (miB cn) = As.length + 1) (hc : Nat.ble (c + 1) 518 = true) (hb : bsS c = .inr (mCl (miB cn), fs)) (hM : CT l s0 D A dT cn (rmN cn) (.ref (A c) :: As) s (fun o t => Bd t ∧ Fm L M s t ∧ J0 t ∧ ∃ e, o = .inl (some (.int (Int32.ofInt e))) ∧ rng e ∧ P e t)) (hr : rmB cn m0 = true) (hw : (st.map fun v => v.category).sum ≤ 8) (g : ∀ (t : PS) (e : Int), Bd t → Fm L M s t → J0 t → rng e → P e t → WS k (pc + 3) lv (.int (Int32.ofInt e) :: st) (Wd A dT t) 0 0) : WS k pc lv (As.reverse ++ .ref (A c) :: st) (Wd A dT s) 0 0 := by
  obtain ⟨r, c1, d1⟩ := rmb_ok E.2.2.2 hr
  refine z_callV X c (rm := rmN cn) (st := st) h hn (c518_ok hc) hb (by rw [E.1, E.2.1, E.2.2.1]; exact hM) r hw (fun vv t hq => ?_) (fun ee t hq => ?_)
  · obtain ⟨I, F, j0, e, hv, hr, hp⟩ := hq
    cases hv
    rw [c1, d1]
    exact g t e I F j0 hr hp
  · obtain ⟨I, F, j0, e, hv, hr, hp⟩ := hq
    cases hv
theorem zcV_i2 (X : AX k mn dT) {m0 : Nat} (E : kL k = l ∧ kS0 k = s0 ∧ kD k = D ∧ kR k = rmN m0) (c : Nat) {idx cn : Nat} {fs : List AV} {As : List Value} {L M : List Nat} {J0 : PS → Prop} {J1 : PS → Prop} {P : Int → PS → Prop} (h : cdA mn pc = some (.invokevirtual idx, 3, cn, b, z)) (hn : mAr (miB cn) = As.length + 1) (hc : Nat.ble (c + 1) 518 = true) (hb : bsS c = .inr (mCl (miB cn), fs)) (hM : CT l s0 D A dT cn (rmN cn) (.ref (A c) :: As) s (fun o t => Bd t ∧ Fm L M s t ∧ J0 t ∧ J1 t ∧ ∃ e, o = .inl (some (.int (Int32.ofInt e))) ∧ rng e ∧ P e t)) (hr : rmB cn m0 = true) (hw : (st.map fun v => v.category).sum ≤ 8) (g : ∀ (t : PS) (e : Int), Bd t → Fm L M s t → J0 t → J1 t → rng e → P e t → WS k (pc + 3) lv (.int (Int32.ofInt e) :: st) (Wd A dT t) 0 0) : WS k pc lv (As.reverse ++ .ref (A c) :: st) (Wd A dT s) 0 0 := by
  obtain ⟨r, c1, d1⟩ := rmb_ok E.2.2.2 hr
  refine z_callV X c (rm := rmN cn) (st := st) h hn (c518_ok hc) hb (by rw [E.1, E.2.1, E.2.2.1]; exact hM) r hw (fun vv t hq => ?_) (fun ee t hq => ?_)
  · obtain ⟨I, F, j0, j1, e, hv, hr, hp⟩ := hq
    cases hv
    rw [c1, d1]
    exact g t e I F j0 j1 hr hp
  · obtain ⟨I, F, j0, j1, e, hv, hr, hp⟩ := hq
    cases hv
theorem zcV_i3 (X : AX k mn dT) {m0 : Nat} (E : kL k = l ∧ kS0 k = s0 ∧ kD k = D ∧ kR k = rmN m0) (c : Nat) {idx cn : Nat} {fs : List AV} {As : List Value} {L M : List Nat} {J0 : PS → Prop} {J1 : PS → Prop} {J2 : PS → Prop} {P : Int → PS → Prop} (h : cdA mn pc = some (.invokevirtual idx, 3, cn, b, z)) (hn : mAr (miB cn) = As.length + 1) (hc : Nat.ble (c + 1) 518 = true) (hb : bsS c = .inr (mCl (miB cn), fs)) (hM : CT l s0 D A dT cn (rmN cn) (.ref (A c) :: As) s (fun o t => Bd t ∧ Fm L M s t ∧ J0 t ∧ J1 t ∧ J2 t ∧ ∃ e, o = .inl (some (.int (Int32.ofInt e))) ∧ rng e ∧ P e t)) (hr : rmB cn m0 = true) (hw : (st.map fun v => v.category).sum ≤ 8) (g : ∀ (t : PS) (e : Int), Bd t → Fm L M s t → J0 t → J1 t → J2 t → rng e → P e t → WS k (pc + 3) lv (.int (Int32.ofInt e) :: st) (Wd A dT t) 0 0) : WS k pc lv (As.reverse ++ .ref (A c) :: st) (Wd A dT s) 0 0 := by
  obtain ⟨r, c1, d1⟩ := rmb_ok E.2.2.2 hr
  refine z_callV X c (rm := rmN cn) (st := st) h hn (c518_ok hc) hb (by rw [E.1, E.2.1, E.2.2.1]; exact hM) r hw (fun vv t hq => ?_) (fun ee t hq => ?_)
  · obtain ⟨I, F, j0, j1, j2, e, hv, hr, hp⟩ := hq
    cases hv
    rw [c1, d1]
    exact g t e I F j0 j1 j2 hr hp
  · obtain ⟨I, F, j0, j1, j2, e, hv, hr, hp⟩ := hq
    cases hv
theorem zcV_v0 (X : AX k mn dT) {m0 : Nat} (E : kL k = l ∧ kS0 k = s0 ∧ kD k = D ∧ kR k = rmN m0) (c : Nat) {idx cn : Nat} {fs : List AV} {As : List Value} {L M : List Nat} {P : PS → Prop} (h : cdA mn pc = some (.invokevirtual idx, 3, cn, b, z)) (hn : mAr (miB cn) = As.length + 1) (hc : Nat.ble (c + 1) 518 = true) (hb : bsS c = .inr (mCl (miB cn), fs)) (hM : CT l s0 D A dT cn (rmN cn) (.ref (A c) :: As) s (fun o t => Bd t ∧ Fm L M s t ∧ o = .inl none ∧ P t)) (hr : rmB cn m0 = true) (hw : (st.map fun v => v.category).sum ≤ 8) (g : ∀ (t : PS), Bd t → Fm L M s t → P t → WS k (pc + 3) lv st (Wd A dT t) 0 0) : WS k pc lv (As.reverse ++ .ref (A c) :: st) (Wd A dT s) 0 0 := by
  obtain ⟨r, c1, d1⟩ := rmb_ok E.2.2.2 hr
  refine z_callV X c (rm := rmN cn) (st := st) h hn (c518_ok hc) hb (by rw [E.1, E.2.1, E.2.2.1]; exact hM) r hw (fun vv t hq => ?_) (fun ee t hq => ?_)
  · obtain ⟨I, F, hv, hp⟩ := hq
    cases hv
    rw [c1, d1]
    exact g t I F hp
  · obtain ⟨I, F, hv, hp⟩ := hq
    cases hv
theorem zcV_v1 (X : AX k mn dT) {m0 : Nat} (E : kL k = l ∧ kS0 k = s0 ∧ kD k = D ∧ kR k = rmN m0) (c : Nat) {idx cn : Nat} {fs : List AV} {As : List Value} {L M : List Nat} {J0 : PS → Prop} {P : PS → Prop} (h : cdA mn pc = some (.invokevirtual idx, 3, cn, b, z)) (hn : mAr (miB cn) = As.length + 1) (hc : Nat.ble (c + 1) 518 = true) (hb : bsS c = .inr (mCl (miB cn), fs)) (hM : CT l s0 D A dT cn (rmN cn) (.ref (A c) :: As) s (fun o t => Bd t ∧ Fm L M s t ∧ J0 t ∧ o = .inl none ∧ P t)) (hr : rmB cn m0 = true) (hw : (st.map fun v => v.category).sum ≤ 8) (g : ∀ (t : PS), Bd t → Fm L M s t → J0 t → P t → WS k (pc + 3) lv st (Wd A dT t) 0 0) : WS k pc lv (As.reverse ++ .ref (A c) :: st) (Wd A dT s) 0 0 := by
  obtain ⟨r, c1, d1⟩ := rmb_ok E.2.2.2 hr
  refine z_callV X c (rm := rmN cn) (st := st) h hn (c518_ok hc) hb (by rw [E.1, E.2.1, E.2.2.1]; exact hM) r hw (fun vv t hq => ?_) (fun ee t hq => ?_)
  · obtain ⟨I, F, j0, hv, hp⟩ := hq
    cases hv
    rw [c1, d1]
    exact g t I F j0 hp
  · obtain ⟨I, F, j0, hv, hp⟩ := hq
    cases hv
theorem zcV_v2 (X : AX k mn dT) {m0 : Nat} (E : kL k = l ∧ kS0 k = s0 ∧ kD k = D ∧ kR k = rmN m0) (c : Nat) {idx cn : Nat} {fs : List AV} {As : List Value} {L M : List Nat} {J0 : PS → Prop} {J1 : PS → Prop} {P : PS → Prop} (h : cdA mn pc = some (.invokevirtual idx, 3, cn, b, z)) (hn : mAr (miB cn) = As.length + 1) (hc : Nat.ble (c + 1) 518 = true) (hb : bsS c = .inr (mCl (miB cn), fs)) (hM : CT l s0 D A dT cn (rmN cn) (.ref (A c) :: As) s (fun o t => Bd t ∧ Fm L M s t ∧ J0 t ∧ J1 t ∧ o = .inl none ∧ P t)) (hr : rmB cn m0 = true) (hw : (st.map fun v => v.category).sum ≤ 8) (g : ∀ (t : PS), Bd t → Fm L M s t → J0 t → J1 t → P t → WS k (pc + 3) lv st (Wd A dT t) 0 0) : WS k pc lv (As.reverse ++ .ref (A c) :: st) (Wd A dT s) 0 0 := by
  obtain ⟨r, c1, d1⟩ := rmb_ok E.2.2.2 hr
  refine z_callV X c (rm := rmN cn) (st := st) h hn (c518_ok hc) hb (by rw [E.1, E.2.1, E.2.2.1]; exact hM) r hw (fun vv t hq => ?_) (fun ee t hq => ?_)
  · obtain ⟨I, F, j0, j1, hv, hp⟩ := hq
    cases hv
    rw [c1, d1]
    exact g t I F j0 j1 hp
  · obtain ⟨I, F, j0, j1, hv, hp⟩ := hq
    cases hv
theorem zcV_v3 (X : AX k mn dT) {m0 : Nat} (E : kL k = l ∧ kS0 k = s0 ∧ kD k = D ∧ kR k = rmN m0) (c : Nat) {idx cn : Nat} {fs : List AV} {As : List Value} {L M : List Nat} {J0 : PS → Prop} {J1 : PS → Prop} {J2 : PS → Prop} {P : PS → Prop} (h : cdA mn pc = some (.invokevirtual idx, 3, cn, b, z)) (hn : mAr (miB cn) = As.length + 1) (hc : Nat.ble (c + 1) 518 = true) (hb : bsS c = .inr (mCl (miB cn), fs)) (hM : CT l s0 D A dT cn (rmN cn) (.ref (A c) :: As) s (fun o t => Bd t ∧ Fm L M s t ∧ J0 t ∧ J1 t ∧ J2 t ∧ o = .inl none ∧ P t)) (hr : rmB cn m0 = true) (hw : (st.map fun v => v.category).sum ≤ 8) (g : ∀ (t : PS), Bd t → Fm L M s t → J0 t → J1 t → J2 t → P t → WS k (pc + 3) lv st (Wd A dT t) 0 0) : WS k pc lv (As.reverse ++ .ref (A c) :: st) (Wd A dT s) 0 0 := by
  obtain ⟨r, c1, d1⟩ := rmb_ok E.2.2.2 hr
  refine z_callV X c (rm := rmN cn) (st := st) h hn (c518_ok hc) hb (by rw [E.1, E.2.1, E.2.2.1]; exact hM) r hw (fun vv t hq => ?_) (fun ee t hq => ?_)
  · obtain ⟨I, F, j0, j1, j2, hv, hp⟩ := hq
    cases hv
    rw [c1, d1]
    exact g t I F j0 j1 j2 hp
  · obtain ⟨I, F, j0, j1, j2, hv, hp⟩ := hq
    cases hv
theorem zcS_i0 (X : AX k mn dT) {m0 : Nat} (E : kL k = l ∧ kS0 k = s0 ∧ kD k = D ∧ kR k = rmN m0) {idx cn : Nat} {As : List Value} {L M : List Nat} {P : Int → PS → Prop} (h : cdA mn pc = some (.invokestatic idx, 3, cn, 1, z)) (hn : mAr (miB cn) = As.length) (hM : CT l s0 D A dT cn (rmN cn) (As) s (fun o t => Bd t ∧ Fm L M s t ∧ ∃ e, o = .inl (some (.int (Int32.ofInt e))) ∧ rng e ∧ P e t)) (hr : rmB cn m0 = true) (hw : (st.map fun v => v.category).sum ≤ 8) (g : ∀ (t : PS) (e : Int), Bd t → Fm L M s t → rng e → P e t → WS k (pc + 3) lv (.int (Int32.ofInt e) :: st) (Wd A dT t) 0 0) : WS k pc lv (As.reverse ++ st) (Wd A dT s) 0 0 := by
  obtain ⟨r, c1, d1⟩ := rmb_ok E.2.2.2 hr
  refine z_callS X (rm := rmN cn) (st := st) h hn (by rw [E.1, E.2.1, E.2.2.1]; exact hM) r hw (fun vv t hq => ?_) (fun ee t hq => ?_)
  · obtain ⟨I, F, e, hv, hr, hp⟩ := hq
    cases hv
    rw [c1, d1]
    exact g t e I F hr hp
  · obtain ⟨I, F, e, hv, hr, hp⟩ := hq
    cases hv
theorem zcS_i1 (X : AX k mn dT) {m0 : Nat} (E : kL k = l ∧ kS0 k = s0 ∧ kD k = D ∧ kR k = rmN m0) {idx cn : Nat} {As : List Value} {L M : List Nat} {J0 : PS → Prop} {P : Int → PS → Prop} (h : cdA mn pc = some (.invokestatic idx, 3, cn, 1, z)) (hn : mAr (miB cn) = As.length) (hM : CT l s0 D A dT cn (rmN cn) (As) s (fun o t => Bd t ∧ Fm L M s t ∧ J0 t ∧ ∃ e, o = .inl (some (.int (Int32.ofInt e))) ∧ rng e ∧ P e t)) (hr : rmB cn m0 = true) (hw : (st.map fun v => v.category).sum ≤ 8) (g : ∀ (t : PS) (e : Int), Bd t → Fm L M s t → J0 t → rng e → P e t → WS k (pc + 3) lv (.int (Int32.ofInt e) :: st) (Wd A dT t) 0 0) : WS k pc lv (As.reverse ++ st) (Wd A dT s) 0 0 := by
  obtain ⟨r, c1, d1⟩ := rmb_ok E.2.2.2 hr
  refine z_callS X (rm := rmN cn) (st := st) h hn (by rw [E.1, E.2.1, E.2.2.1]; exact hM) r hw (fun vv t hq => ?_) (fun ee t hq => ?_)
  · obtain ⟨I, F, j0, e, hv, hr, hp⟩ := hq
    cases hv
    rw [c1, d1]
    exact g t e I F j0 hr hp
  · obtain ⟨I, F, j0, e, hv, hr, hp⟩ := hq
    cases hv
theorem zcS_i2 (X : AX k mn dT) {m0 : Nat} (E : kL k = l ∧ kS0 k = s0 ∧ kD k = D ∧ kR k = rmN m0) {idx cn : Nat} {As : List Value} {L M : List Nat} {J0 : PS → Prop} {J1 : PS → Prop} {P : Int → PS → Prop} (h : cdA mn pc = some (.invokestatic idx, 3, cn, 1, z)) (hn : mAr (miB cn) = As.length) (hM : CT l s0 D A dT cn (rmN cn) (As) s (fun o t => Bd t ∧ Fm L M s t ∧ J0 t ∧ J1 t ∧ ∃ e, o = .inl (some (.int (Int32.ofInt e))) ∧ rng e ∧ P e t)) (hr : rmB cn m0 = true) (hw : (st.map fun v => v.category).sum ≤ 8) (g : ∀ (t : PS) (e : Int), Bd t → Fm L M s t → J0 t → J1 t → rng e → P e t → WS k (pc + 3) lv (.int (Int32.ofInt e) :: st) (Wd A dT t) 0 0) : WS k pc lv (As.reverse ++ st) (Wd A dT s) 0 0 := by
  obtain ⟨r, c1, d1⟩ := rmb_ok E.2.2.2 hr
  refine z_callS X (rm := rmN cn) (st := st) h hn (by rw [E.1, E.2.1, E.2.2.1]; exact hM) r hw (fun vv t hq => ?_) (fun ee t hq => ?_)
  · obtain ⟨I, F, j0, j1, e, hv, hr, hp⟩ := hq
    cases hv
    rw [c1, d1]
    exact g t e I F j0 j1 hr hp
  · obtain ⟨I, F, j0, j1, e, hv, hr, hp⟩ := hq
    cases hv
theorem zcS_i3 (X : AX k mn dT) {m0 : Nat} (E : kL k = l ∧ kS0 k = s0 ∧ kD k = D ∧ kR k = rmN m0) {idx cn : Nat} {As : List Value} {L M : List Nat} {J0 : PS → Prop} {J1 : PS → Prop} {J2 : PS → Prop} {P : Int → PS → Prop} (h : cdA mn pc = some (.invokestatic idx, 3, cn, 1, z)) (hn : mAr (miB cn) = As.length) (hM : CT l s0 D A dT cn (rmN cn) (As) s (fun o t => Bd t ∧ Fm L M s t ∧ J0 t ∧ J1 t ∧ J2 t ∧ ∃ e, o = .inl (some (.int (Int32.ofInt e))) ∧ rng e ∧ P e t)) (hr : rmB cn m0 = true) (hw : (st.map fun v => v.category).sum ≤ 8) (g : ∀ (t : PS) (e : Int), Bd t → Fm L M s t → J0 t → J1 t → J2 t → rng e → P e t → WS k (pc + 3) lv (.int (Int32.ofInt e) :: st) (Wd A dT t) 0 0) : WS k pc lv (As.reverse ++ st) (Wd A dT s) 0 0 := by
  obtain ⟨r, c1, d1⟩ := rmb_ok E.2.2.2 hr
  refine z_callS X (rm := rmN cn) (st := st) h hn (by rw [E.1, E.2.1, E.2.2.1]; exact hM) r hw (fun vv t hq => ?_) (fun ee t hq => ?_)
  · obtain ⟨I, F, j0, j1, j2, e, hv, hr, hp⟩ := hq
    cases hv
    rw [c1, d1]
    exact g t e I F j0 j1 j2 hr hp
  · obtain ⟨I, F, j0, j1, j2, e, hv, hr, hp⟩ := hq
    cases hv
theorem zcS_v0 (X : AX k mn dT) {m0 : Nat} (E : kL k = l ∧ kS0 k = s0 ∧ kD k = D ∧ kR k = rmN m0) {idx cn : Nat} {As : List Value} {L M : List Nat} {P : PS → Prop} (h : cdA mn pc = some (.invokestatic idx, 3, cn, 1, z)) (hn : mAr (miB cn) = As.length) (hM : CT l s0 D A dT cn (rmN cn) (As) s (fun o t => Bd t ∧ Fm L M s t ∧ o = .inl none ∧ P t)) (hr : rmB cn m0 = true) (hw : (st.map fun v => v.category).sum ≤ 8) (g : ∀ (t : PS), Bd t → Fm L M s t → P t → WS k (pc + 3) lv st (Wd A dT t) 0 0) : WS k pc lv (As.reverse ++ st) (Wd A dT s) 0 0 := by
  obtain ⟨r, c1, d1⟩ := rmb_ok E.2.2.2 hr
  refine z_callS X (rm := rmN cn) (st := st) h hn (by rw [E.1, E.2.1, E.2.2.1]; exact hM) r hw (fun vv t hq => ?_) (fun ee t hq => ?_)
  · obtain ⟨I, F, hv, hp⟩ := hq
    cases hv
    rw [c1, d1]
    exact g t I F hp
  · obtain ⟨I, F, hv, hp⟩ := hq
    cases hv
theorem zcS_v1 (X : AX k mn dT) {m0 : Nat} (E : kL k = l ∧ kS0 k = s0 ∧ kD k = D ∧ kR k = rmN m0) {idx cn : Nat} {As : List Value} {L M : List Nat} {J0 : PS → Prop} {P : PS → Prop} (h : cdA mn pc = some (.invokestatic idx, 3, cn, 1, z)) (hn : mAr (miB cn) = As.length) (hM : CT l s0 D A dT cn (rmN cn) (As) s (fun o t => Bd t ∧ Fm L M s t ∧ J0 t ∧ o = .inl none ∧ P t)) (hr : rmB cn m0 = true) (hw : (st.map fun v => v.category).sum ≤ 8) (g : ∀ (t : PS), Bd t → Fm L M s t → J0 t → P t → WS k (pc + 3) lv st (Wd A dT t) 0 0) : WS k pc lv (As.reverse ++ st) (Wd A dT s) 0 0 := by
  obtain ⟨r, c1, d1⟩ := rmb_ok E.2.2.2 hr
  refine z_callS X (rm := rmN cn) (st := st) h hn (by rw [E.1, E.2.1, E.2.2.1]; exact hM) r hw (fun vv t hq => ?_) (fun ee t hq => ?_)
  · obtain ⟨I, F, j0, hv, hp⟩ := hq
    cases hv
    rw [c1, d1]
    exact g t I F j0 hp
  · obtain ⟨I, F, j0, hv, hp⟩ := hq
    cases hv
theorem zcS_v2 (X : AX k mn dT) {m0 : Nat} (E : kL k = l ∧ kS0 k = s0 ∧ kD k = D ∧ kR k = rmN m0) {idx cn : Nat} {As : List Value} {L M : List Nat} {J0 : PS → Prop} {J1 : PS → Prop} {P : PS → Prop} (h : cdA mn pc = some (.invokestatic idx, 3, cn, 1, z)) (hn : mAr (miB cn) = As.length) (hM : CT l s0 D A dT cn (rmN cn) (As) s (fun o t => Bd t ∧ Fm L M s t ∧ J0 t ∧ J1 t ∧ o = .inl none ∧ P t)) (hr : rmB cn m0 = true) (hw : (st.map fun v => v.category).sum ≤ 8) (g : ∀ (t : PS), Bd t → Fm L M s t → J0 t → J1 t → P t → WS k (pc + 3) lv st (Wd A dT t) 0 0) : WS k pc lv (As.reverse ++ st) (Wd A dT s) 0 0 := by
  obtain ⟨r, c1, d1⟩ := rmb_ok E.2.2.2 hr
  refine z_callS X (rm := rmN cn) (st := st) h hn (by rw [E.1, E.2.1, E.2.2.1]; exact hM) r hw (fun vv t hq => ?_) (fun ee t hq => ?_)
  · obtain ⟨I, F, j0, j1, hv, hp⟩ := hq
    cases hv
    rw [c1, d1]
    exact g t I F j0 j1 hp
  · obtain ⟨I, F, j0, j1, hv, hp⟩ := hq
    cases hv
theorem zcS_v3 (X : AX k mn dT) {m0 : Nat} (E : kL k = l ∧ kS0 k = s0 ∧ kD k = D ∧ kR k = rmN m0) {idx cn : Nat} {As : List Value} {L M : List Nat} {J0 : PS → Prop} {J1 : PS → Prop} {J2 : PS → Prop} {P : PS → Prop} (h : cdA mn pc = some (.invokestatic idx, 3, cn, 1, z)) (hn : mAr (miB cn) = As.length) (hM : CT l s0 D A dT cn (rmN cn) (As) s (fun o t => Bd t ∧ Fm L M s t ∧ J0 t ∧ J1 t ∧ J2 t ∧ o = .inl none ∧ P t)) (hr : rmB cn m0 = true) (hw : (st.map fun v => v.category).sum ≤ 8) (g : ∀ (t : PS), Bd t → Fm L M s t → J0 t → J1 t → J2 t → P t → WS k (pc + 3) lv st (Wd A dT t) 0 0) : WS k pc lv (As.reverse ++ st) (Wd A dT s) 0 0 := by
  obtain ⟨r, c1, d1⟩ := rmb_ok E.2.2.2 hr
  refine z_callS X (rm := rmN cn) (st := st) h hn (by rw [E.1, E.2.1, E.2.2.1]; exact hM) r hw (fun vv t hq => ?_) (fun ee t hq => ?_)
  · obtain ⟨I, F, j0, j1, j2, hv, hp⟩ := hq
    cases hv
    rw [c1, d1]
    exact g t I F j0 j1 j2 hp
  · obtain ⟨I, F, j0, j1, j2, hv, hp⟩ := hq
    cases hv
end QK
theorem bi_73 {s : PS} (I : Bd s) : (0 : Int) ≤ iI s 73 ∧ iI s 73 ≤ 3 := I.1 73
theorem bi_76 {s : PS} (I : Bd s) : ((-1) : Int) ≤ iI s 76 ∧ iI s 76 ≤ 400 := I.1 76
theorem bi_96 {s : PS} (I : Bd s) : (0 : Int) ≤ iI s 96 ∧ iI s 96 ≤ 100000 := I.1 96
theorem bi_95 {s : PS} (I : Bd s) : (0 : Int) ≤ iI s 95 ∧ iI s 95 ≤ 9 := I.1 95
theorem bi_97 {s : PS} (I : Bd s) : (0 : Int) ≤ iI s 97 ∧ iI s 97 ≤ 8 := I.1 97
theorem bi_103 {s : PS} (I : Bd s) : (1 : Int) ≤ iI s 103 ∧ iI s 103 ≤ 8 := I.1 103
theorem bi_102 {s : PS} (I : Bd s) : (1 : Int) ≤ iI s 102 ∧ iI s 102 ≤ 24 := I.1 102
theorem bi_99 {s : PS} (I : Bd s) : (0 : Int) ≤ iI s 99 ∧ iI s 99 ≤ 6 := I.1 99
theorem bc_398 {s : PS} (I : Bd s) {i : Nat} (h : i < 8) : (0 : Int) ≤ iC s 398 i ∧ iC s 398 i ≤ 24 := I.2 398 i h
theorem bc_399 {s : PS} (I : Bd s) {i : Nat} (h : i < 128) : (0 : Int) ≤ iC s 399 i ∧ iC s 399 i ≤ 1 := I.2 399 i h
theorem bc_228 {s : PS} (I : Bd s) {i : Nat} (h : i < 128) : ((-1) : Int) ≤ iC s 228 i ∧ iC s 228 i ≤ 7 := I.2 228 i h
theorem bc_234 {s : PS} (I : Bd s) {i : Nat} (h : i < 8) : (0 : Int) ≤ iC s 234 i ∧ iC s 234 i ≤ 127 := I.2 234 i h
theorem bi_90 {s : PS} (I : Bd s) : (0 : Int) ≤ iI s 90 ∧ iI s 90 ≤ 12 := I.1 90
theorem bc_163 {s : PS} (I : Bd s) {i : Nat} (h : i < 12) : (0 : Int) ≤ iC s 163 i ∧ iC s 163 i ≤ 2 := I.2 163 i h
theorem bc_164 {s : PS} (I : Bd s) {i : Nat} (h : i < 12) : (0 : Int) ≤ iC s 164 i ∧ iC s 164 i ≤ 2 := I.2 164 i h
theorem bc_162 {s : PS} (I : Bd s) {i : Nat} (h : i < 12) : (0 : Int) ≤ iC s 162 i ∧ iC s 162 i ≤ 24 := I.2 162 i h
theorem bc_403 {s : PS} (I : Bd s) {i : Nat} (h : i < 12) : (0 : Int) ≤ iC s 403 i ∧ iC s 403 i ≤ 24 := I.2 403 i h
theorem bi_83 {s : PS} (I : Bd s) : (0 : Int) ≤ iI s 83 ∧ iI s 83 ≤ 8 := I.1 83
theorem bi_107 {s : PS} (I : Bd s) : (0 : Int) ≤ iI s 107 ∧ iI s 107 ≤ 40 := I.1 107
theorem bi_98 {s : PS} (I : Bd s) : (0 : Int) ≤ iI s 98 ∧ iI s 98 ≤ 4 := I.1 98
theorem bi_74 {s : PS} (I : Bd s) : (0 : Int) ≤ iI s 74 ∧ iI s 74 ≤ 200 := I.1 74
theorem bc_202 {s : PS} (I : Bd s) {i : Nat} (h : i < 12) : (0 : Int) ≤ iC s 202 i ∧ iC s 202 i ≤ 24 := I.2 202 i h
theorem bi_75 {s : PS} (I : Bd s) : (0 : Int) ≤ iI s 75 ∧ iI s 75 ≤ 200 := I.1 75
theorem bi_81 {s : PS} (I : Bd s) : (0 : Int) ≤ iI s 81 ∧ iI s 81 ≤ 1 := I.1 81
theorem bi_79 {s : PS} (I : Bd s) : (0 : Int) ≤ iI s 79 ∧ iI s 79 ≤ 9 := I.1 79
theorem bc_158 {s : PS} (I : Bd s) {i : Nat} (h : i < 200) : (0 : Int) ≤ iC s 158 i ∧ iC s 158 i ≤ 255 := I.2 158 i h
theorem bc_157 {s : PS} (I : Bd s) {i : Nat} (h : i < 200) : (0 : Int) ≤ iC s 157 i ∧ iC s 157 i ≤ 255 := I.2 157 i h
theorem bi_77 {s : PS} (I : Bd s) : (0 : Int) ≤ iI s 77 ∧ iI s 77 ≤ 400 := I.1 77
theorem bi_78 {s : PS} (I : Bd s) : (0 : Int) ≤ iI s 78 ∧ iI s 78 ≤ 8 := I.1 78
theorem bc_161 {s : PS} (I : Bd s) {i : Nat} (h : i < 7) : ((-2147483648) : Int) ≤ iC s 161 i ∧ iC s 161 i ≤ 2147483647 := I.2 161 i h
theorem bi_82 {s : PS} (I : Bd s) : (0 : Int) ≤ iI s 82 ∧ iI s 82 ≤ 200 := I.1 82
theorem bc_237 {s : PS} (I : Bd s) {i : Nat} (h : i < 6) : (0 : Int) ≤ iC s 237 i ∧ iC s 237 i ≤ 16777215 := I.2 237 i h
theorem bi_89 {s : PS} (I : Bd s) : (1 : Int) ≤ iI s 89 ∧ iI s 89 ≤ 8 := I.1 89
theorem bc_230 {s : PS} (I : Bd s) {i : Nat} (h : i < 128) : (0 : Int) ≤ iC s 230 i ∧ iC s 230 i ≤ 1 := I.2 230 i h
theorem bc_203 {s : PS} (I : Bd s) {i : Nat} (h : i < 12) : (0 : Int) ≤ iC s 203 i ∧ iC s 203 i ≤ 50 := I.2 203 i h
theorem bi_85 {s : PS} (I : Bd s) : ((-1) : Int) ≤ iI s 85 ∧ iI s 85 ≤ 200 := I.1 85
theorem bi_84 {s : PS} (I : Bd s) : (0 : Int) ≤ iI s 84 ∧ iI s 84 ≤ 8 := I.1 84
theorem bc_159 {s : PS} (I : Bd s) {i : Nat} (h : i < 8) : (0 : Int) ≤ iC s 159 i ∧ iC s 159 i ≤ 200 := I.2 159 i h
theorem bc_229 {s : PS} (I : Bd s) {i : Nat} (h : i < 8) : (0 : Int) ≤ iC s 229 i ∧ iC s 229 i ≤ 9999 := I.2 229 i h
theorem bc_396 {s : PS} (I : Bd s) {i : Nat} (h : i < 24) : ((-2147483648) : Int) ≤ iC s 396 i ∧ iC s 396 i ≤ 2147483647 := I.2 396 i h
theorem bc_232 {s : PS} (I : Bd s) {i : Nat} (h : i < 128) : (0 : Int) ≤ iC s 232 i ∧ iC s 232 i ≤ 127 := I.2 232 i h
theorem bc_231 {s : PS} (I : Bd s) {i : Nat} (h : i < 128) : (0 : Int) ≤ iC s 231 i ∧ iC s 231 i ≤ 1 := I.2 231 i h
theorem bi_100 {s : PS} (I : Bd s) : ((-2147483648) : Int) ≤ iI s 100 ∧ iI s 100 ≤ 2147483647 := I.1 100
theorem bi_101 {s : PS} (I : Bd s) : ((-2147483648) : Int) ≤ iI s 101 ∧ iI s 101 ≤ 2147483647 := I.1 101
theorem bc_240 {s : PS} (I : Bd s) {i : Nat} (h : i < 256) : (0 : Int) ≤ iC s 240 i ∧ iC s 240 i ≤ 1 := I.2 240 i h
theorem bc_239 {s : PS} (I : Bd s) {i : Nat} (h : i < 256) : ((-2147483648) : Int) ≤ iC s 239 i ∧ iC s 239 i ≤ 2147483647 := I.2 239 i h
theorem bc_238 {s : PS} (I : Bd s) {i : Nat} (h : i < 256) : ((-2147483648) : Int) ≤ iC s 238 i ∧ iC s 238 i ≤ 2147483647 := I.2 238 i h
theorem bc_235 {s : PS} (I : Bd s) {i : Nat} (h : i < 8) : (0 : Int) ≤ iC s 235 i ∧ iC s 235 i ≤ 7 := I.2 235 i h
theorem bc_236 {s : PS} (I : Bd s) {i : Nat} (h : i < 8) : ((-1) : Int) ≤ iC s 236 i ∧ iC s 236 i ≤ 7 := I.2 236 i h
theorem bi_104 {s : PS} (I : Bd s) : ((-2147483648) : Int) ≤ iI s 104 ∧ iI s 104 ≤ 2147483647 := I.1 104
theorem bc_395 {s : PS} (I : Bd s) {i : Nat} (h : i < 24) : (0 : Int) ≤ iC s 395 i ∧ iC s 395 i ≤ 5 := I.2 395 i h
theorem bc_397 {s : PS} (I : Bd s) {i : Nat} (h : i < 24) : (0 : Int) ≤ iC s 397 i ∧ iC s 397 i ≤ 255 := I.2 397 i h
theorem bc_404 {s : PS} (I : Bd s) {i : Nat} (h : i < 128) : ((-1) : Int) ≤ iC s 404 i ∧ iC s 404 i ≤ 127 := I.2 404 i h
theorem bi_105 {s : PS} (I : Bd s) : (0 : Int) ≤ iI s 105 ∧ iI s 105 ≤ 12 := I.1 105
theorem bc_400 {s : PS} (I : Bd s) {i : Nat} (h : i < 8) : (0 : Int) ≤ iC s 400 i ∧ iC s 400 i ≤ 11 := I.2 400 i h
theorem bc_401 {s : PS} (I : Bd s) {i : Nat} (h : i < 12) : (0 : Int) ≤ iC s 401 i ∧ iC s 401 i ≤ 3 := I.2 401 i h
theorem bi_106 {s : PS} (I : Bd s) : ((-2147483648) : Int) ≤ iI s 106 ∧ iI s 106 ≤ 2147483647 := I.1 106
theorem bc_402 {s : PS} (I : Bd s) {i : Nat} (h : i < 12) : (0 : Int) ≤ iC s 402 i ∧ iC s 402 i ≤ 3 := I.2 402 i h
theorem bi_4 {s : PS} (I : Bd s) : (0 : Int) ≤ iI s 4 ∧ iI s 4 ≤ 200 := I.1 4
theorem bi_43 {s : PS} (I : Bd s) : (0 : Int) ≤ iI s 43 ∧ iI s 43 ≤ 12 := I.1 43
theorem bi_44 {s : PS} (I : Bd s) : (0 : Int) ≤ iI s 44 ∧ iI s 44 ≤ 66 := I.1 44
theorem bi_10 {s : PS} (I : Bd s) : (0 : Int) ≤ iI s 10 ∧ iI s 10 ≤ 66 := I.1 10
theorem bi_9 {s : PS} (I : Bd s) : (0 : Int) ≤ iI s 9 ∧ iI s 9 ≤ 12 := I.1 9
theorem bc_1 {s : PS} (I : Bd s) {i : Nat} (h : i < 288) : (0 : Int) ≤ iC s 1 i ∧ iC s 1 i ≤ 127 := I.2 1 i h
theorem bc_79 {s : PS} (I : Bd s) {i : Nat} (h : i < 24) : (0 : Int) ≤ iC s 79 i ∧ iC s 79 i ≤ 127 := I.2 79 i h
theorem bc_2 {s : PS} (I : Bd s) {i : Nat} (h : i < 12) : (0 : Int) ≤ iC s 2 i ∧ iC s 2 i ≤ 24 := I.2 2 i h
theorem bc_12 {s : PS} (I : Bd s) {i : Nat} (h : i < 12) : (0 : Int) ≤ iC s 12 i ∧ iC s 12 i ≤ 1200 := I.2 12 i h
theorem bc_21 {s : PS} (I : Bd s) {i : Nat} (h : i < 128) : ((-1) : Int) ≤ iC s 21 i ∧ iC s 21 i ≤ 7 := I.2 21 i h
theorem bc_17 {s : PS} (I : Bd s) {i : Nat} (h : i < 8) : (0 : Int) ≤ iC s 17 i ∧ iC s 17 i ≤ 200 := I.2 17 i h
theorem bi_22 {s : PS} (I : Bd s) : (0 : Int) ≤ iI s 22 ∧ iI s 22 ≤ 12 := I.1 22
theorem bi_23 {s : PS} (I : Bd s) : (0 : Int) ≤ iI s 23 ∧ iI s 23 ≤ 66 := I.1 23
theorem bi_13 {s : PS} (I : Bd s) : ((-1) : Int) ≤ iI s 13 ∧ iI s 13 ≤ 7 := I.1 13
theorem bc_6 {s : PS} (I : Bd s) {i : Nat} (h : i < 66) : (0 : Int) ≤ iC s 6 i ∧ iC s 6 i ≤ 143 := I.2 6 i h
theorem bc_26 {s : PS} (I : Bd s) {i : Nat} (h : i < 12) : (0 : Int) ≤ iC s 26 i ∧ iC s 26 i ≤ 11 := I.2 26 i h
theorem bc_27 {s : PS} (I : Bd s) {i : Nat} (h : i < 12) : ((-2147483648) : Int) ≤ iC s 27 i ∧ iC s 27 i ≤ 2147483647 := I.2 27 i h
theorem bc_29 {s : PS} (I : Bd s) {i : Nat} (h : i < 12) : ((-2147483648) : Int) ≤ iC s 29 i ∧ iC s 29 i ≤ 2147483647 := I.2 29 i h
theorem bc_11 {s : PS} (I : Bd s) {i : Nat} (h : i < 288) : (0 : Int) ≤ iC s 11 i ∧ iC s 11 i ≤ 50 := I.2 11 i h
theorem bc_30 {s : PS} (I : Bd s) {i : Nat} (h : i < 66) : (0 : Int) ≤ iC s 30 i ∧ iC s 30 i ≤ 11 := I.2 30 i h
theorem bc_31 {s : PS} (I : Bd s) {i : Nat} (h : i < 66) : (0 : Int) ≤ iC s 31 i ∧ iC s 31 i ≤ 11 := I.2 31 i h
theorem bc_32 {s : PS} (I : Bd s) {i : Nat} (h : i < 66) : ((-2147483648) : Int) ≤ iC s 32 i ∧ iC s 32 i ≤ 2147483647 := I.2 32 i h
theorem bc_16 {s : PS} (I : Bd s) {i : Nat} (h : i < 200) : ((-2147483648) : Int) ≤ iC s 16 i ∧ iC s 16 i ≤ 2147483647 := I.2 16 i h
theorem bc_20 {s : PS} (I : Bd s) {i : Nat} (h : i < 200) : ((-2147483648) : Int) ≤ iC s 20 i ∧ iC s 20 i ≤ 2147483647 := I.2 20 i h
theorem bc_33 {s : PS} (I : Bd s) {i : Nat} (h : i < 7) : ((-2147483648) : Int) ≤ iC s 33 i ∧ iC s 33 i ≤ 2147483647 := I.2 33 i h
theorem bc_14 {s : PS} (I : Bd s) {i : Nat} (h : i < 24) : (0 : Int) ≤ iC s 14 i ∧ iC s 14 i ≤ 23 := I.2 14 i h
theorem bc_13 {s : PS} (I : Bd s) {i : Nat} (h : i < 12) : (0 : Int) ≤ iC s 13 i ∧ iC s 13 i ≤ 1200 := I.2 13 i h
theorem bc_34 {s : PS} (I : Bd s) {i : Nat} (h : i < 12) : ((-2147483648) : Int) ≤ iC s 34 i ∧ iC s 34 i ≤ 2147483647 := I.2 34 i h
theorem bi_32 {s : PS} (I : Bd s) : (0 : Int) ≤ iI s 32 ∧ iI s 32 ≤ 6 := I.1 32
theorem bi_36 {s : PS} (I : Bd s) : (1 : Int) ≤ iI s 36 ∧ iI s 36 ≤ 24 := I.1 36
theorem bi_37 {s : PS} (I : Bd s) : (1 : Int) ≤ iI s 37 ∧ iI s 37 ≤ 8 := I.1 37
theorem bi_38 {s : PS} (I : Bd s) : ((-2147483648) : Int) ≤ iI s 38 ∧ iI s 38 ≤ 2147483647 := I.1 38
theorem bc_51 {s : PS} (I : Bd s) {i : Nat} (h : i < 24) : (0 : Int) ≤ iC s 51 i ∧ iC s 51 i ≤ 5 := I.2 51 i h
theorem bc_47 {s : PS} (I : Bd s) {i : Nat} (h : i < 6) : ((-2147483648) : Int) ≤ iC s 47 i ∧ iC s 47 i ≤ 2147483647 := I.2 47 i h
theorem bc_53 {s : PS} (I : Bd s) {i : Nat} (h : i < 8) : ((-2147483648) : Int) ≤ iC s 53 i ∧ iC s 53 i ≤ 2147483647 := I.2 53 i h
theorem bc_52 {s : PS} (I : Bd s) {i : Nat} (h : i < 8) : (0 : Int) ≤ iC s 52 i ∧ iC s 52 i ≤ 24 := I.2 52 i h
theorem bc_54 {s : PS} (I : Bd s) {i : Nat} (h : i < 8) : ((-2147483648) : Int) ≤ iC s 54 i ∧ iC s 54 i ≤ 2147483647 := I.2 54 i h
theorem bc_55 {s : PS} (I : Bd s) {i : Nat} (h : i < 8) : ((-2147483648) : Int) ≤ iC s 55 i ∧ iC s 55 i ≤ 2147483647 := I.2 55 i h
theorem bi_12 {s : PS} (I : Bd s) : (0 : Int) ≤ iI s 12 ∧ iI s 12 ≤ 9 := I.1 12
theorem bi_14 {s : PS} (I : Bd s) : ((-2147483648) : Int) ≤ iI s 14 ∧ iI s 14 ≤ 2147483647 := I.1 14
theorem bi_28 {s : PS} (I : Bd s) : (0 : Int) ≤ iI s 28 ∧ iI s 28 ≤ 8 := I.1 28
theorem bi_31 {s : PS} (I : Bd s) : (0 : Int) ≤ iI s 31 ∧ iI s 31 ≤ 1 := I.1 31
theorem bi_29 {s : PS} (I : Bd s) : ((-2147483648) : Int) ≤ iI s 29 ∧ iI s 29 ≤ 2147483647 := I.1 29
theorem bi_30 {s : PS} (I : Bd s) : ((-2147483648) : Int) ≤ iI s 30 ∧ iI s 30 ≤ 2147483647 := I.1 30
theorem bc_39 {s : PS} (I : Bd s) {i : Nat} (h : i < 8) : (0 : Int) ≤ iC s 39 i ∧ iC s 39 i ≤ 127 := I.2 39 i h
theorem bc_40 {s : PS} (I : Bd s) {i : Nat} (h : i < 256) : (0 : Int) ≤ iC s 40 i ∧ iC s 40 i ≤ 1 := I.2 40 i h
theorem bc_44 {s : PS} (I : Bd s) {i : Nat} (h : i < 3) : (0 : Int) ≤ iC s 44 i ∧ iC s 44 i ≤ 255 := I.2 44 i h
theorem bc_41 {s : PS} (I : Bd s) {i : Nat} (h : i < 256) : ((-2147483648) : Int) ≤ iC s 41 i ∧ iC s 41 i ≤ 2147483647 := I.2 41 i h
theorem bc_42 {s : PS} (I : Bd s) {i : Nat} (h : i < 256) : ((-2147483648) : Int) ≤ iC s 42 i ∧ iC s 42 i ≤ 2147483647 := I.2 42 i h
theorem bi_33 {s : PS} (I : Bd s) : (0 : Int) ≤ iI s 33 ∧ iI s 33 ≤ 100000 := I.1 33
theorem bi_35 {s : PS} (I : Bd s) : (0 : Int) ≤ iI s 35 ∧ iI s 35 ≤ 23 := I.1 35
theorem bi_34 {s : PS} (I : Bd s) : ((-2147483648) : Int) ≤ iI s 34 ∧ iI s 34 ≤ 2147483647 := I.1 34
theorem bc_48 {s : PS} (I : Bd s) {i : Nat} (h : i < 144) : (0 : Int) ≤ iC s 48 i ∧ iC s 48 i ≤ 1 := I.2 48 i h
theorem bc_46 {s : PS} (I : Bd s) {i : Nat} (h : i < 6) : (0 : Int) ≤ iC s 46 i ∧ iC s 46 i ≤ 16777215 := I.2 46 i h
theorem bc_24 {s : PS} (I : Bd s) {i : Nat} (h : i < 8) : (0 : Int) ≤ iC s 24 i ∧ iC s 24 i ≤ 9999 := I.2 24 i h
theorem bc_49 {s : PS} (I : Bd s) {i : Nat} (h : i < 24) : ((-2147483648) : Int) ≤ iC s 49 i ∧ iC s 49 i ≤ 2147483647 := I.2 49 i h
theorem bc_50 {s : PS} (I : Bd s) {i : Nat} (h : i < 3456) : ((-2147483648) : Int) ≤ iC s 50 i ∧ iC s 50 i ≤ 2147483647 := I.2 50 i h
theorem bi_46 {s : PS} (I : Bd s) : (0 : Int) ≤ iI s 46 ∧ iI s 46 ≤ 12 := I.1 46
theorem bi_47 {s : PS} (I : Bd s) : (0 : Int) ≤ iI s 47 ∧ iI s 47 ≤ 66 := I.1 47
theorem bi_49 {s : PS} (I : Bd s) : (0 : Int) ≤ iI s 49 ∧ iI s 49 ≤ 12 := I.1 49
theorem bi_50 {s : PS} (I : Bd s) : (0 : Int) ≤ iI s 50 ∧ iI s 50 ≤ 66 := I.1 50
theorem bi_52 {s : PS} (I : Bd s) : (0 : Int) ≤ iI s 52 ∧ iI s 52 ≤ 12 := I.1 52
theorem bi_53 {s : PS} (I : Bd s) : (0 : Int) ≤ iI s 53 ∧ iI s 53 ≤ 66 := I.1 53
theorem bi_55 {s : PS} (I : Bd s) : (0 : Int) ≤ iI s 55 ∧ iI s 55 ≤ 12 := I.1 55
theorem bi_56 {s : PS} (I : Bd s) : (0 : Int) ≤ iI s 56 ∧ iI s 56 ≤ 66 := I.1 56
theorem bc_62 {s : PS} (I : Bd s) {i : Nat} (h : i < 66) : (0 : Int) ≤ iC s 62 i ∧ iC s 62 i ≤ 143 := I.2 62 i h
theorem bc_80 {s : PS} (I : Bd s) {i : Nat} (h : i < 12) : (0 : Int) ≤ iC s 80 i ∧ iC s 80 i ≤ 11 := I.2 80 i h
theorem bc_81 {s : PS} (I : Bd s) {i : Nat} (h : i < 12) : ((-2147483648) : Int) ≤ iC s 81 i ∧ iC s 81 i ≤ 2147483647 := I.2 81 i h
theorem bc_83 {s : PS} (I : Bd s) {i : Nat} (h : i < 12) : ((-2147483648) : Int) ≤ iC s 83 i ∧ iC s 83 i ≤ 2147483647 := I.2 83 i h
theorem bc_67 {s : PS} (I : Bd s) {i : Nat} (h : i < 288) : (0 : Int) ≤ iC s 67 i ∧ iC s 67 i ≤ 50 := I.2 67 i h
theorem bc_84 {s : PS} (I : Bd s) {i : Nat} (h : i < 66) : (0 : Int) ≤ iC s 84 i ∧ iC s 84 i ≤ 11 := I.2 84 i h
theorem bc_85 {s : PS} (I : Bd s) {i : Nat} (h : i < 66) : (0 : Int) ≤ iC s 85 i ∧ iC s 85 i ≤ 11 := I.2 85 i h
theorem bc_86 {s : PS} (I : Bd s) {i : Nat} (h : i < 66) : ((-2147483648) : Int) ≤ iC s 86 i ∧ iC s 86 i ≤ 2147483647 := I.2 86 i h
theorem bc_87 {s : PS} (I : Bd s) {i : Nat} (h : i < 7) : ((-2147483648) : Int) ≤ iC s 87 i ∧ iC s 87 i ≤ 2147483647 := I.2 87 i h
theorem bc_89 {s : PS} (I : Bd s) {i : Nat} (h : i < 12) : (0 : Int) ≤ iC s 89 i ∧ iC s 89 i ≤ 11 := I.2 89 i h
theorem bc_90 {s : PS} (I : Bd s) {i : Nat} (h : i < 12) : ((-2147483648) : Int) ≤ iC s 90 i ∧ iC s 90 i ≤ 2147483647 := I.2 90 i h
theorem bc_92 {s : PS} (I : Bd s) {i : Nat} (h : i < 12) : ((-2147483648) : Int) ≤ iC s 92 i ∧ iC s 92 i ≤ 2147483647 := I.2 92 i h
theorem bc_93 {s : PS} (I : Bd s) {i : Nat} (h : i < 66) : (0 : Int) ≤ iC s 93 i ∧ iC s 93 i ≤ 11 := I.2 93 i h
theorem bc_94 {s : PS} (I : Bd s) {i : Nat} (h : i < 66) : (0 : Int) ≤ iC s 94 i ∧ iC s 94 i ≤ 11 := I.2 94 i h
theorem bc_95 {s : PS} (I : Bd s) {i : Nat} (h : i < 66) : ((-2147483648) : Int) ≤ iC s 95 i ∧ iC s 95 i ≤ 2147483647 := I.2 95 i h
theorem bc_96 {s : PS} (I : Bd s) {i : Nat} (h : i < 7) : ((-2147483648) : Int) ≤ iC s 96 i ∧ iC s 96 i ≤ 2147483647 := I.2 96 i h
theorem bc_98 {s : PS} (I : Bd s) {i : Nat} (h : i < 12) : (0 : Int) ≤ iC s 98 i ∧ iC s 98 i ≤ 11 := I.2 98 i h
theorem bc_99 {s : PS} (I : Bd s) {i : Nat} (h : i < 12) : ((-2147483648) : Int) ≤ iC s 99 i ∧ iC s 99 i ≤ 2147483647 := I.2 99 i h
theorem bc_101 {s : PS} (I : Bd s) {i : Nat} (h : i < 12) : ((-2147483648) : Int) ≤ iC s 101 i ∧ iC s 101 i ≤ 2147483647 := I.2 101 i h
theorem bc_102 {s : PS} (I : Bd s) {i : Nat} (h : i < 66) : (0 : Int) ≤ iC s 102 i ∧ iC s 102 i ≤ 11 := I.2 102 i h
theorem bc_103 {s : PS} (I : Bd s) {i : Nat} (h : i < 66) : (0 : Int) ≤ iC s 103 i ∧ iC s 103 i ≤ 11 := I.2 103 i h
theorem bc_104 {s : PS} (I : Bd s) {i : Nat} (h : i < 66) : ((-2147483648) : Int) ≤ iC s 104 i ∧ iC s 104 i ≤ 2147483647 := I.2 104 i h
theorem bc_105 {s : PS} (I : Bd s) {i : Nat} (h : i < 7) : ((-2147483648) : Int) ≤ iC s 105 i ∧ iC s 105 i ≤ 2147483647 := I.2 105 i h
theorem bc_107 {s : PS} (I : Bd s) {i : Nat} (h : i < 12) : (0 : Int) ≤ iC s 107 i ∧ iC s 107 i ≤ 11 := I.2 107 i h
theorem bc_108 {s : PS} (I : Bd s) {i : Nat} (h : i < 12) : ((-2147483648) : Int) ≤ iC s 108 i ∧ iC s 108 i ≤ 2147483647 := I.2 108 i h
theorem bc_110 {s : PS} (I : Bd s) {i : Nat} (h : i < 12) : ((-2147483648) : Int) ≤ iC s 110 i ∧ iC s 110 i ≤ 2147483647 := I.2 110 i h
theorem bc_111 {s : PS} (I : Bd s) {i : Nat} (h : i < 66) : (0 : Int) ≤ iC s 111 i ∧ iC s 111 i ≤ 11 := I.2 111 i h
theorem bc_112 {s : PS} (I : Bd s) {i : Nat} (h : i < 66) : (0 : Int) ≤ iC s 112 i ∧ iC s 112 i ≤ 11 := I.2 112 i h
theorem bc_113 {s : PS} (I : Bd s) {i : Nat} (h : i < 66) : ((-2147483648) : Int) ≤ iC s 113 i ∧ iC s 113 i ≤ 2147483647 := I.2 113 i h
theorem bc_114 {s : PS} (I : Bd s) {i : Nat} (h : i < 7) : ((-2147483648) : Int) ≤ iC s 114 i ∧ iC s 114 i ≤ 2147483647 := I.2 114 i h
theorem bi_58 {s : PS} (I : Bd s) : (0 : Int) ≤ iI s 58 ∧ iI s 58 ≤ 12 := I.1 58
theorem bi_59 {s : PS} (I : Bd s) : (0 : Int) ≤ iI s 59 ∧ iI s 59 ≤ 66 := I.1 59
theorem bi_61 {s : PS} (I : Bd s) : (0 : Int) ≤ iI s 61 ∧ iI s 61 ≤ 12 := I.1 61
theorem bi_62 {s : PS} (I : Bd s) : (0 : Int) ≤ iI s 62 ∧ iI s 62 ≤ 66 := I.1 62
theorem bi_64 {s : PS} (I : Bd s) : (0 : Int) ≤ iI s 64 ∧ iI s 64 ≤ 12 := I.1 64
theorem bi_65 {s : PS} (I : Bd s) : (0 : Int) ≤ iI s 65 ∧ iI s 65 ≤ 66 := I.1 65
theorem bi_67 {s : PS} (I : Bd s) : (0 : Int) ≤ iI s 67 ∧ iI s 67 ≤ 12 := I.1 67
theorem bi_68 {s : PS} (I : Bd s) : (0 : Int) ≤ iI s 68 ∧ iI s 68 ≤ 66 := I.1 68
theorem bc_116 {s : PS} (I : Bd s) {i : Nat} (h : i < 12) : (0 : Int) ≤ iC s 116 i ∧ iC s 116 i ≤ 11 := I.2 116 i h
theorem bc_117 {s : PS} (I : Bd s) {i : Nat} (h : i < 12) : ((-2147483648) : Int) ≤ iC s 117 i ∧ iC s 117 i ≤ 2147483647 := I.2 117 i h
theorem bc_119 {s : PS} (I : Bd s) {i : Nat} (h : i < 12) : ((-2147483648) : Int) ≤ iC s 119 i ∧ iC s 119 i ≤ 2147483647 := I.2 119 i h
theorem bc_120 {s : PS} (I : Bd s) {i : Nat} (h : i < 66) : (0 : Int) ≤ iC s 120 i ∧ iC s 120 i ≤ 11 := I.2 120 i h
theorem bc_121 {s : PS} (I : Bd s) {i : Nat} (h : i < 66) : (0 : Int) ≤ iC s 121 i ∧ iC s 121 i ≤ 11 := I.2 121 i h
theorem bc_122 {s : PS} (I : Bd s) {i : Nat} (h : i < 66) : ((-2147483648) : Int) ≤ iC s 122 i ∧ iC s 122 i ≤ 2147483647 := I.2 122 i h
theorem bc_123 {s : PS} (I : Bd s) {i : Nat} (h : i < 7) : ((-2147483648) : Int) ≤ iC s 123 i ∧ iC s 123 i ≤ 2147483647 := I.2 123 i h
theorem bc_125 {s : PS} (I : Bd s) {i : Nat} (h : i < 12) : (0 : Int) ≤ iC s 125 i ∧ iC s 125 i ≤ 11 := I.2 125 i h
theorem bc_126 {s : PS} (I : Bd s) {i : Nat} (h : i < 12) : ((-2147483648) : Int) ≤ iC s 126 i ∧ iC s 126 i ≤ 2147483647 := I.2 126 i h
theorem bc_128 {s : PS} (I : Bd s) {i : Nat} (h : i < 12) : ((-2147483648) : Int) ≤ iC s 128 i ∧ iC s 128 i ≤ 2147483647 := I.2 128 i h
theorem bc_129 {s : PS} (I : Bd s) {i : Nat} (h : i < 66) : (0 : Int) ≤ iC s 129 i ∧ iC s 129 i ≤ 11 := I.2 129 i h
theorem bc_130 {s : PS} (I : Bd s) {i : Nat} (h : i < 66) : (0 : Int) ≤ iC s 130 i ∧ iC s 130 i ≤ 11 := I.2 130 i h
theorem bc_131 {s : PS} (I : Bd s) {i : Nat} (h : i < 66) : ((-2147483648) : Int) ≤ iC s 131 i ∧ iC s 131 i ≤ 2147483647 := I.2 131 i h
theorem bc_132 {s : PS} (I : Bd s) {i : Nat} (h : i < 7) : ((-2147483648) : Int) ≤ iC s 132 i ∧ iC s 132 i ≤ 2147483647 := I.2 132 i h
theorem bc_134 {s : PS} (I : Bd s) {i : Nat} (h : i < 12) : (0 : Int) ≤ iC s 134 i ∧ iC s 134 i ≤ 11 := I.2 134 i h
theorem bc_135 {s : PS} (I : Bd s) {i : Nat} (h : i < 12) : ((-2147483648) : Int) ≤ iC s 135 i ∧ iC s 135 i ≤ 2147483647 := I.2 135 i h
theorem bc_137 {s : PS} (I : Bd s) {i : Nat} (h : i < 12) : ((-2147483648) : Int) ≤ iC s 137 i ∧ iC s 137 i ≤ 2147483647 := I.2 137 i h
theorem bc_138 {s : PS} (I : Bd s) {i : Nat} (h : i < 66) : (0 : Int) ≤ iC s 138 i ∧ iC s 138 i ≤ 11 := I.2 138 i h
theorem bc_139 {s : PS} (I : Bd s) {i : Nat} (h : i < 66) : (0 : Int) ≤ iC s 139 i ∧ iC s 139 i ≤ 11 := I.2 139 i h
theorem bc_140 {s : PS} (I : Bd s) {i : Nat} (h : i < 66) : ((-2147483648) : Int) ≤ iC s 140 i ∧ iC s 140 i ≤ 2147483647 := I.2 140 i h
theorem bc_141 {s : PS} (I : Bd s) {i : Nat} (h : i < 7) : ((-2147483648) : Int) ≤ iC s 141 i ∧ iC s 141 i ≤ 2147483647 := I.2 141 i h
theorem bc_143 {s : PS} (I : Bd s) {i : Nat} (h : i < 12) : (0 : Int) ≤ iC s 143 i ∧ iC s 143 i ≤ 11 := I.2 143 i h
theorem bc_144 {s : PS} (I : Bd s) {i : Nat} (h : i < 12) : ((-2147483648) : Int) ≤ iC s 144 i ∧ iC s 144 i ≤ 2147483647 := I.2 144 i h
theorem bc_146 {s : PS} (I : Bd s) {i : Nat} (h : i < 12) : ((-2147483648) : Int) ≤ iC s 146 i ∧ iC s 146 i ≤ 2147483647 := I.2 146 i h
theorem bc_147 {s : PS} (I : Bd s) {i : Nat} (h : i < 66) : (0 : Int) ≤ iC s 147 i ∧ iC s 147 i ≤ 11 := I.2 147 i h
theorem bc_148 {s : PS} (I : Bd s) {i : Nat} (h : i < 66) : (0 : Int) ≤ iC s 148 i ∧ iC s 148 i ≤ 11 := I.2 148 i h
theorem bc_149 {s : PS} (I : Bd s) {i : Nat} (h : i < 66) : ((-2147483648) : Int) ≤ iC s 149 i ∧ iC s 149 i ≤ 2147483647 := I.2 149 i h
theorem bc_150 {s : PS} (I : Bd s) {i : Nat} (h : i < 7) : ((-2147483648) : Int) ≤ iC s 150 i ∧ iC s 150 i ≤ 2147483647 := I.2 150 i h
theorem bi_41 {s : PS} (I : Bd s) : (0 : Int) ≤ iI s 41 ∧ iI s 41 ≤ 12 := I.1 41
theorem bi_39 {s : PS} (I : Bd s) : (0 : Int) ≤ iI s 39 ∧ iI s 39 ≤ 23 := I.1 39
theorem bi_42 {s : PS} (I : Bd s) : ((-2147483648) : Int) ≤ iI s 42 ∧ iI s 42 ≤ 2147483647 := I.1 42
theorem bc_72 {s : PS} (I : Bd s) {i : Nat} (h : i < 12) : (0 : Int) ≤ iC s 72 i ∧ iC s 72 i ≤ 11 := I.2 72 i h
theorem bc_75 {s : PS} (I : Bd s) {i : Nat} (h : i < 8) : ((-2147483648) : Int) ≤ iC s 75 i ∧ iC s 75 i ≤ 2147483647 := I.2 75 i h
theorem bc_78 {s : PS} (I : Bd s) {i : Nat} (h : i < 128) : (0 : Int) ≤ iC s 78 i ∧ iC s 78 i ≤ 127 := I.2 78 i h
theorem bc_77 {s : PS} (I : Bd s) {i : Nat} (h : i < 128) : ((-2147483648) : Int) ≤ iC s 77 i ∧ iC s 77 i ≤ 2147483647 := I.2 77 i h
theorem bc_76 {s : PS} (I : Bd s) {i : Nat} (h : i < 256) : ((-2147483648) : Int) ≤ iC s 76 i ∧ iC s 76 i ≤ 2147483647 := I.2 76 i h
theorem bc_73 {s : PS} (I : Bd s) {i : Nat} (h : i < 8) : ((-2147483648) : Int) ≤ iC s 73 i ∧ iC s 73 i ≤ 2147483647 := I.2 73 i h
theorem bi_40 {s : PS} (I : Bd s) : (0 : Int) ≤ iI s 40 ∧ iI s 40 ≤ 4095 := I.1 40
theorem bi_8 {s : PS} (I : Bd s) : ((-1) : Int) ≤ iI s 8 ∧ iI s 8 ≤ 200 := I.1 8
theorem bi_21 {s : PS} (I : Bd s) : (0 : Int) ≤ iI s 21 ∧ iI s 21 ≤ 9 := I.1 21
theorem bi_70 {s : PS} (I : Bd s) : (0 : Int) ≤ iI s 70 ∧ iI s 70 ≤ 40 := I.1 70
theorem bi_20 {s : PS} (I : Bd s) : (0 : Int) ≤ iI s 20 ∧ iI s 20 ≤ 4 := I.1 20
theorem bi_0 {s : PS} (I : Bd s) : (0 : Int) ≤ iI s 0 ∧ iI s 0 ≤ 200 := I.1 0
theorem bc_45 {s : PS} (I : Bd s) {i : Nat} (h : i < 8) : ((-2147483648) : Int) ≤ iC s 45 i ∧ iC s 45 i ≤ 2147483647 := I.2 45 i h
theorem bc_56 {s : PS} (I : Bd s) {i : Nat} (h : i < 24) : ((-2147483648) : Int) ≤ iC s 56 i ∧ iC s 56 i ≤ 2147483647 := I.2 56 i h
theorem bi_3 {s : PS} (I : Bd s) : (0 : Int) ≤ iI s 3 ∧ iI s 3 ≤ 1 := I.1 3
theorem bi_2 {s : PS} (I : Bd s) : (0 : Int) ≤ iI s 2 ∧ iI s 2 ≤ 200 := I.1 2
theorem bi_1 {s : PS} (I : Bd s) : (0 : Int) ≤ iI s 1 ∧ iI s 1 ≤ 200 := I.1 1
theorem bi_5 {s : PS} (I : Bd s) : ((-3) : Int) ≤ iI s 5 ∧ iI s 5 ≤ 255 := I.1 5
theorem bi_6 {s : PS} (I : Bd s) : (0 : Int) ≤ iI s 6 ∧ iI s 6 ≤ 100000 := I.1 6
theorem bi_11 {s : PS} (I : Bd s) : (0 : Int) ≤ iI s 11 ∧ iI s 11 ≤ 24 := I.1 11
theorem bi_91 {s : PS} (I : Bd s) : (0 : Int) ≤ iI s 91 ∧ iI s 91 ≤ 24 := I.1 91
theorem bc_0 {s : PS} (I : Bd s) {i : Nat} (h : i < 200) : (0 : Int) ≤ iC s 0 i ∧ iC s 0 i ≤ 255 := I.2 0 i h
theorem bc_15 {s : PS} (I : Bd s) {i : Nat} (h : i < 24) : (0 : Int) ≤ iC s 15 i ∧ iC s 15 i ≤ 127 := I.2 15 i h
theorem bc_165 {s : PS} (I : Bd s) {i : Nat} (h : i < 24) : ((-2147483648) : Int) ≤ iC s 165 i ∧ iC s 165 i ≤ 2147483647 := I.2 165 i h
theorem bc_8 {s : PS} (I : Bd s) {i : Nat} (h : i < 288) : (0 : Int) ≤ iC s 8 i ∧ iC s 8 i ≤ 50 := I.2 8 i h
theorem bc_10 {s : PS} (I : Bd s) {i : Nat} (h : i < 12) : (0 : Int) ≤ iC s 10 i ∧ iC s 10 i ≤ 2 := I.2 10 i h
theorem bc_9 {s : PS} (I : Bd s) {i : Nat} (h : i < 12) : (0 : Int) ≤ iC s 9 i ∧ iC s 9 i ≤ 2 := I.2 9 i h
theorem bi_80 {s : PS} (I : Bd s) : ((-1) : Int) ≤ iI s 80 ∧ iI s 80 ≤ 400 := I.1 80
theorem bi_7 {s : PS} (I : Bd s) : (0 : Int) ≤ iI s 7 ∧ iI s 7 ≤ 9 := I.1 7
theorem bi_16 {s : PS} (I : Bd s) : (0 : Int) ≤ iI s 16 ∧ iI s 16 ≤ 200 := I.1 16
theorem bi_19 {s : PS} (I : Bd s) : (0 : Int) ≤ iI s 19 ∧ iI s 19 ≤ 6 := I.1 19
theorem bi_24 {s : PS} (I : Bd s) : (0 : Int) ≤ iI s 24 ∧ iI s 24 ≤ 23 := I.1 24
theorem bc_28 {s : PS} (I : Bd s) {i : Nat} (h : i < 12) : ((-2147483648) : Int) ≤ iC s 28 i ∧ iC s 28 i ≤ 2147483647 := I.2 28 i h
theorem bi_25 {s : PS} (I : Bd s) : ((-1) : Int) ≤ iI s 25 ∧ iI s 25 ≤ 127 := I.1 25
theorem bi_26 {s : PS} (I : Bd s) : (0 : Int) ≤ iI s 26 ∧ iI s 26 ≤ 7 := I.1 26
theorem bi_27 {s : PS} (I : Bd s) : ((-2147483648) : Int) ≤ iI s 27 ∧ iI s 27 ≤ 2147483647 := I.1 27
theorem bi_15 {s : PS} (I : Bd s) : (0 : Int) ≤ iI s 15 ∧ iI s 15 ≤ 1 := I.1 15
theorem bc_36 {s : PS} (I : Bd s) {i : Nat} (h : i < 8) : ((-2147483648) : Int) ≤ iC s 36 i ∧ iC s 36 i ≤ 2147483647 := I.2 36 i h
theorem bc_35 {s : PS} (I : Bd s) {i : Nat} (h : i < 8) : (0 : Int) ≤ iC s 35 i ∧ iC s 35 i ≤ 1 := I.2 35 i h
theorem bc_37 {s : PS} (I : Bd s) {i : Nat} (h : i < 8) : ((-2147483648) : Int) ≤ iC s 37 i ∧ iC s 37 i ≤ 2147483647 := I.2 37 i h
theorem bc_38 {s : PS} (I : Bd s) {i : Nat} (h : i < 8) : (0 : Int) ≤ iC s 38 i ∧ iC s 38 i ≤ 1 := I.2 38 i h
theorem bi_92 {s : PS} (I : Bd s) : ((-1) : Int) ≤ iI s 92 ∧ iI s 92 ≤ 127 := I.1 92
theorem bi_93 {s : PS} (I : Bd s) : (0 : Int) ≤ iI s 93 ∧ iI s 93 ≤ 7 := I.1 93
theorem bi_94 {s : PS} (I : Bd s) : ((-2147483648) : Int) ≤ iI s 94 ∧ iI s 94 ≤ 2147483647 := I.1 94
theorem bc_233 {s : PS} (I : Bd s) {i : Nat} (h : i < 8) : ((-2147483648) : Int) ≤ iC s 233 i ∧ iC s 233 i ≤ 2147483647 := I.2 233 i h
theorem bi_86 {s : PS} (I : Bd s) : (0 : Int) ≤ iI s 86 ∧ iI s 86 ≤ 8 := I.1 86
theorem bi_87 {s : PS} (I : Bd s) : (0 : Int) ≤ iI s 87 ∧ iI s 87 ≤ 8 := I.1 87
theorem bi_88 {s : PS} (I : Bd s) : ((-1) : Int) ≤ iI s 88 ∧ iI s 88 ≤ 200 := I.1 88
theorem bi_17 {s : PS} (I : Bd s) : ((-1) : Int) ≤ iI s 17 ∧ iI s 17 ≤ 7 := I.1 17
theorem bi_18 {s : PS} (I : Bd s) : ((-2147483648) : Int) ≤ iI s 18 ∧ iI s 18 ≤ 2147483647 := I.1 18
theorem bc_160 {s : PS} (I : Bd s) {i : Nat} (h : i < 8) : (0 : Int) ≤ iC s 160 i ∧ iC s 160 i ≤ 200 := I.2 160 i h
theorem bc_25 {s : PS} (I : Bd s) {i : Nat} (h : i < 512) : ((-1) : Int) ≤ iC s 25 i ∧ iC s 25 i ≤ 7 := I.2 25 i h
theorem bi_71 {s : PS} (I : Bd s) : ((-2147483648) : Int) ≤ iI s 71 ∧ iI s 71 ≤ 2147483647 := I.1 71
theorem bi_72 {s : PS} (I : Bd s) : ((-2147483648) : Int) ≤ iI s 72 ∧ iI s 72 ≤ 2147483647 := I.1 72
theorem bc_154 {s : PS} (I : Bd s) {i : Nat} (h : i < 40) : (0 : Int) ≤ iC s 154 i ∧ iC s 154 i ≤ 1 := I.2 154 i h
theorem bc_156 {s : PS} (I : Bd s) {i : Nat} (h : i < 4) : ((-2147483648) : Int) ≤ iC s 156 i ∧ iC s 156 i ≤ 2147483647 := I.2 156 i h
theorem bc_152 {s : PS} (I : Bd s) {i : Nat} (h : i < 160) : ((-2147483648) : Int) ≤ iC s 152 i ∧ iC s 152 i ≤ 2147483647 := I.2 152 i h
theorem bc_153 {s : PS} (I : Bd s) {i : Nat} (h : i < 40) : ((-2147483648) : Int) ≤ iC s 153 i ∧ iC s 153 i ≤ 2147483647 := I.2 153 i h
theorem bc_155 {s : PS} (I : Bd s) {i : Nat} (h : i < 4) : ((-2147483648) : Int) ≤ iC s 155 i ∧ iC s 155 i ≤ 2147483647 := I.2 155 i h
theorem bc_457 {s : PS} (I : Bd s) {i : Nat} (h : i < 40) : ((-2147483648) : Int) ≤ iC s 457 i ∧ iC s 457 i ≤ 2147483647 := I.2 457 i h
theorem bc_459 {s : PS} (I : Bd s) {i : Nat} (h : i < 40) : (0 : Int) ≤ iC s 459 i ∧ iC s 459 i ≤ 1 := I.2 459 i h
