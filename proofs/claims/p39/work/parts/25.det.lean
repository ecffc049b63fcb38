/-! Determined runs: what a method does to the agreed part of the picture is a function of that part -/
abbrev TT : Type := (Nat → Prop) × (Nat → Nat → Prop)
/-- the pictures g and s agree on T -/
def AGr (T : TT) (g s : PS) : Prop := (∀ q, T.1 q → gI s q = gI g q) ∧ ∀ a j, T.2 a j → gC s a j = gC g a j
theorem AGr_rf (T : TT) (g : PS) : AGr T g g := ⟨fun _ _ => rfl, fun _ _ _ => rfl⟩
theorem AGr_mono {T T' : TT} {g s : PS} (h : AGr T g s) (h1 : ∀ q, T'.1 q → T.1 q) (h2 : ∀ a j, T'.2 a j → T.2 a j) : AGr T' g s := ⟨fun q hq => h.1 q (h1 q hq), fun a j hj => h.2 a j (h2 a j hj)⟩
def TI (T : TT) (q : Nat) : TT := (fun k => k = q ∨ T.1 k, T.2)
def TC (T : TT) (a i : Nat) : TT := (T.1, fun b j => (b = a ∧ j = i) ∨ T.2 b j)
def TU (T : TT) (a : Nat) (c : Int) : TT := (T.1, fun b j => (b = a ∧ (j : Int) < c) ∨ T.2 b j)
theorem AGr_Ig {T : TT} {g s : PS} {q : Nat} {x : Int32} (h : AGr T g s) : AGr (TI T q) (uI g q x) (uI s q x) :=
  ⟨fun k hk => by
    show (if k = q then x else s.1 k) = (if k = q then x else g.1 k)
    by_cases e : k = q
    · rw [if_pos e, if_pos e]
    · rw [if_neg e, if_neg e]; exact h.1 k (hk.resolve_left e), h.2⟩
theorem AGr_Cg {T : TT} {g s : PS} {a i : Nat} {x : Int32} (h : AGr T g s) : AGr (TC T a i) (uC g a i x) (uC s a i x) :=
  ⟨h.1, fun b j hj => by
    show (if b = a then upd (s.2.2.1 a) i x else s.2.2.1 b) j = (if b = a then upd (g.2.2.1 a) i x else g.2.2.1 b) j
    by_cases e : b = a
    · rw [if_pos e, if_pos e]
      unfold upd
      by_cases e2 : j = i
      · rw [if_pos e2, if_pos e2]
      · rw [if_neg e2, if_neg e2, ← e]; exact h.2 b j (hj.resolve_left (fun q => e2 q.2))
    · rw [if_neg e, if_neg e]; exact h.2 b j (hj.resolve_left (fun q => e q.1))⟩
theorem AGr_I {T : TT} {g s : PS} {q : Nat} {x : Int32} (h : AGr T g s) : AGr T (uI g q x) (uI s q x) := AGr_mono (AGr_Ig h) (fun _ h => Or.inr h) (fun _ _ h => h)
theorem AGr_C {T : TT} {g s : PS} {a i : Nat} {x : Int32} (h : AGr T g s) : AGr T (uC g a i x) (uC s a i x) := AGr_mono (AGr_Cg h) (fun _ h => h) (fun _ _ h => Or.inr h)
def KX (l : Launch) (s0 : State) (D : va_G) (mn : Nat) (dT : Nat → ClassId) (rm : Room) (k : kx_T) : Prop := AX k mn dT ∧ (kL k = l ∧ kS0 k = s0 ∧ kD k = D ∧ kR k = rm) ∧ (kMe k).sig.returnType = rtA mn
/-- from every picture that agrees with g on T the machine comes to one and the same end -/
def DS (l : Launch) (s0 : State) (D : va_G) (A : Nat → Nat) (dT : Nat → ClassId) (mn : Nat) (rm : Room) (L M : List Nat) (To : TT) (Q : mb_O → PS → Prop) (T : TT) (pc : Nat) (lv : List (Nat × Value)) (st : List Value) (g : PS) : Prop :=
  ∃ (o : mb_O) (g' : PS), Q o g' ∧ ∀ (k : kx_T) (si s : PS), KX l s0 D mn dT rm k → kx_end k (fun o' ws => ∃ t, ws = Wd A dT t ∧ o' = o ∧ Bd t ∧ Fm L M si t ∧ AGr To g' t) rm.cells rm.slots → AGr T g s → Bd s → Fm L M si s → WS k pc lv st (Wd A dT s) 0 0
def CD (l : Launch) (s0 : State) (D : va_G) (A : Nat → Nat) (dT : Nat → ClassId) (mn : Nat) (rm : Room) (L M : List Nat) (T To : TT) (vals : List Value) (g : PS) (Q : mb_O → PS → Prop) : Prop :=
  ∃ (o : mb_O) (g' : PS), Q o g' ∧ ∀ s, AGr T g s → Bd s → CT l s0 D A dT mn rm vals s (fun o' t => o' = o ∧ Bd t ∧ Fm L M s t ∧ AGr To g' t)
theorem bo_eq (x y : Int) : x = y ∨ x ≠ y := by omega
theorem bx_eq {x y : Int} : x = y → x ≠ y → False := by omega
theorem bo_ne (x y : Int) : x ≠ y ∨ x = y := by omega
theorem bx_ne {x y : Int} : x ≠ y → x = y → False := by omega
theorem bo_lt (x y : Int) : x < y ∨ y ≤ x := by omega
theorem bx_lt {x y : Int} : x < y → y ≤ x → False := by omega
theorem bo_ge (x y : Int) : y ≤ x ∨ x < y := by omega
theorem bx_ge {x y : Int} : y ≤ x → x < y → False := by omega
theorem bo_gt (x y : Int) : y < x ∨ x ≤ y := by omega
theorem bx_gt {x y : Int} : y < x → x ≤ y → False := by omega
theorem bo_le (x y : Int) : x ≤ y ∨ y < x := by omega
theorem bx_le {x y : Int} : x ≤ y → y < x → False := by omega
section DR
variable {l : Launch} {s0 : State} {D : va_G} {tys : List (ClassId × FieldType)} {a0 : Array Value} {A : Nat → Nat} {dT : Nat → ClassId} {mn : Nat} {rm : Room} {L M : List Nat} {To T : TT} {Q : mb_O → PS → Prop} {pc : Nat} {lv : List (Nat × Value)} {st : List Value} {g : PS} {vals : List Value}
theorem cd_of (G : GX l s0 D tys a0 dT) (hy : plainName (yA mn).cls = true) (hn : (lg_sl vals).length ≤ mNL (miB mn)) (h : ∀ Q', (∀ o t, Q o t → Q' o t) → DS l s0 D A dT mn rm L M To Q' T 0 (lv_args 0 vals) [] g) : CD l s0 D A dT mn rm L M T To vals g Q := by
  obtain ⟨o, g', q, w⟩ := h Q (fun _ _ h => h)
  exact ⟨o, g', q, fun s r b => ct_of G hy hn (fun k X E hRt _ e => w k s s ⟨X, E, hRt⟩ e r b (fm_rf _ _ _))⟩
theorem d_lift {pc' : Nat} {lv' : List (Nat × Value)} {st' : List Value} (h : ∀ k ws, AX k mn dT → WS k pc' lv' st' ws 0 0 → WS k pc lv st ws 0 0) (d : DS l s0 D A dT mn rm L M To Q T pc' lv' st' g) : DS l s0 D A dT mn rm L M To Q T pc lv st g := by
  obtain ⟨o, g', q, w⟩ := d
  exact ⟨o, g', q, fun k si s K e r b f => h k _ K.1 (w k si s K e r b f)⟩
theorem d_liftS {pc' : Nat} {lv' : List (Nat × Value)} {st' : List Value} (h : ∀ k s, AX k mn dT → WS k pc' lv' st' (Wd A dT s) 0 0 → WS k pc lv st (Wd A dT s) 0 0) (d : DS l s0 D A dT mn rm L M To Q T pc' lv' st' g) : DS l s0 D A dT mn rm L M To Q T pc lv st g := by
  obtain ⟨o, g', q, w⟩ := d
  exact ⟨o, g', q, fun k si s K e r b f => h k _ K.1 (w k si s K e r b f)⟩
theorem d_br {c c' : Prop} {pc1 pc2 : Nat} {st1 : List Value} (ho : c ∨ c') (hx : c → c' → False) (h : ∀ k ws, AX k mn dT → (c → WS k pc1 lv st1 ws 0 0) → (c' → WS k pc2 lv st1 ws 0 0) → WS k pc lv st ws 0 0) (h1 : c → DS l s0 D A dT mn rm L M To Q T pc1 lv st1 g) (h2 : c' → DS l s0 D A dT mn rm L M To Q T pc2 lv st1 g) : DS l s0 D A dT mn rm L M To Q T pc lv st g := by
  rcases ho with hc | hc
  · obtain ⟨o, g', q, w⟩ := h1 hc
    exact ⟨o, g', q, fun k si s K e r b f => h k _ K.1 (fun _ => w k si s K e r b f) (fun z => (hx hc z).elim)⟩
  · obtain ⟨o, g', q, w⟩ := h2 hc
    exact ⟨o, g', q, fun k si s K e r b f => h k _ K.1 (fun z => (hx z hc).elim) (fun _ => w k si s K e r b f)⟩
theorem d_lvs {lv' : List (Nat × Value)} (hs : ∀ q ∈ lv, q ∈ lv') (d : DS l s0 D A dT mn rm L M To Q T pc lv st g) : DS l s0 D A dT mn rm L M To Q T pc lv' st g := d_lift (fun _ _ _ h => WS_lv hs h) d
theorem d_mono {T' : TT} (h1 : ∀ q, T'.1 q → T.1 q) (h2 : ∀ a j, T'.2 a j → T.2 a j) (d : DS l s0 D A dT mn rm L M To Q T' pc lv st g) : DS l s0 D A dT mn rm L M To Q T pc lv st g := by
  obtain ⟨o, g', q, w⟩ := d
  exact ⟨o, g', q, fun k si s K e r b f => w k si s K e (AGr_mono r h1 h2) b f⟩
theorem d_any {x : Int32} (h : ∀ e, rng e → DS l s0 D A dT mn rm L M To Q T pc lv (.int (Int32.ofInt e) :: st) g) : DS l s0 D A dT mn rm L M To Q T pc lv (.int x :: st) g := by
  have := h x.toInt (rng_to x)
  rwa [ofi_to] at this
theorem d_andm {x : Int32} {q z : Int} {a b : Nat} (h : cdA mn pc = some (.iand, 1, a, b, z)) (h0 : 0 ≤ q) (hq : q ≤ 2147483647) (d : ∀ e : Int, 0 ≤ e → e ≤ q → DS l s0 D A dT mn rm L M To Q T (pc + 1) lv (.int (Int32.ofInt e) :: st) g) : DS l s0 D A dT mn rm L M To Q T pc lv (.int (Int32.ofInt q) :: .int x :: st) g := by
  have := d (x &&& Int32.ofInt q).toInt (and_le x h0 hq).1 (and_le x h0 hq).2
  rw [ofi_to] at this
  exact d_lift (fun k ws X w => w_iand X.1 (ax_d X h) w) this
theorem d_dany {x y z : Int} {a b : Nat} (h : cdA mn pc = some (.idiv, 1, a, b, z)) (hy : y ≠ 0) (hr : rng y) (d : ∀ e : Int, rng e → DS l s0 D A dT mn rm L M To Q T (pc + 1) lv (.int (Int32.ofInt e) :: st) g) : DS l s0 D A dT mn rm L M To Q T pc lv (.int (Int32.ofInt y) :: .int (Int32.ofInt x) :: st) g :=
  d_lift (fun k ws X w => w_idiv X.1 (ax_d X h) (fun q => by
    have := congrArg Int32.toInt q
    rw [zi hr] at this
    have e0 : (0 : Int32).toInt = 0 := rfl
    omega) w) (d_any d)
theorem d_getI (c : Nat) {idx ci f q : Nat} {fs : List AV} (h : cdA mn pc = some (.getfield idx, 3, ci, f, 0)) (hc : c < 518) (hb : bsS c = .inr (ci, fs)) (hf : fs[f]? = some (aS q)) (hT : T.1 q) (d : DS l s0 D A dT mn rm L M To Q T (pc + 3) lv (.int (Int32.ofInt (iI g q)) :: st) g) : DS l s0 D A dT mn rm L M To Q T pc lv (.ref (A c) :: st) g := by
  obtain ⟨o, g', p, w⟩ := d
  refine ⟨o, g', p, fun k si s K e r b z => z_getI K.1 c h hc hb hf ?_⟩
  rw [show iI s q = iI g q from congrArg Int32.toInt (r.1 q hT)]
  exact w k si s K e r b z
theorem d_putI (c : Nat) {idx ci f q : Nat} {fs : List AV} {x : Int} (h : cdA mn pc = some (.putfield idx, 3, ci, f, 0)) (hc : c < 518) (hb : bsS c = .inr (ci, fs)) (hf : fs[f]? = some (aS q)) (hN : f < (nCl ci).2.1) (hn : narrow ((nCl ci).2.2.2 f) (.int (Int32.ofInt x)) = .int (Int32.ofInt x)) (ht : fits ((nCl ci).2.2.2 f) (.int (Int32.ofInt x)) = true) (hfin : ((nCl ci).2.2.1 f).2.2.2 = false)
    (hL : q ∈ L) (hB : (bI q).1 ≤ x ∧ x ≤ (bI q).2) (hr : rng x) (d : DS l s0 D A dT mn rm L M To Q (TI T q) (pc + 3) lv st (uI g q (Int32.ofInt x))) : DS l s0 D A dT mn rm L M To Q T pc lv (.int (Int32.ofInt x) :: .ref (A c) :: st) g := by
  obtain ⟨o, g', p, w⟩ := d
  exact ⟨o, g', p, fun k si s K e r b z => s_putI K.1 c h hc hb hf hN hn ht hfin (w k si _ K e (AGr_Ig r) (bd_I b hB hr) (fm_I z hL))⟩
theorem d_ald (c : Nat) {n q : Nat} {i : Int} (h : cdA mn pc = some (.iaload, 1, 0, 0, 0)) (hc : c < 518) (hb : bsS c = .inl (0, n, .inr (0, 0, q))) (h0 : 0 ≤ i) (hi : i < (n : Int)) (hn : n < 2147483648) (hT : T.2 q i.toNat) (d : DS l s0 D A dT mn rm L M To Q T (pc + 1) lv (.int (Int32.ofInt (iC g q i.toNat)) :: st) g) : DS l s0 D A dT mn rm L M To Q T pc lv (.int (Int32.ofInt i) :: .ref (A c) :: st) g := by
  obtain ⟨o, g', p, w⟩ := d
  refine ⟨o, g', p, fun k si s K e r b z => z_ald K.1 c h hc hb h0 hi hn ?_⟩
  rw [show iC s q i.toNat = iC g q i.toNat from congrArg Int32.toInt (r.2 q _ hT)]
  exact w k si s K e r b z
theorem d_zald (c : Nat) {n q : Nat} {i : Int} (h : cdA mn pc = some (.baload, 1, 0, 0, 0)) (hc : c < 518) (hb : bsS c = .inl (2, n, .inr (0, 0, q))) (h0 : 0 ≤ i) (hi : i < (n : Int)) (hn : n < 2147483648) (hT : T.2 q i.toNat) (d : DS l s0 D A dT mn rm L M To Q T (pc + 1) lv (.int (Int32.ofInt (iC g q i.toNat)) :: st) g) : DS l s0 D A dT mn rm L M To Q T pc lv (.int (Int32.ofInt i) :: .ref (A c) :: st) g := by
  obtain ⟨o, g', p, w⟩ := d
  refine ⟨o, g', p, fun k si s K e r b z => z_zald K.1 c h hc hb h0 hi hn ?_⟩
  rw [show iC s q i.toNat = iC g q i.toNat from congrArg Int32.toInt (r.2 q _ hT)]
  exact w k si s K e r b z
theorem d_ast (c : Nat) {n q : Nat} {i x : Int} (h : cdA mn pc = some (.iastore, 1, 0, 0, 0)) (hc : c < 518) (hb : bsS c = .inl (0, n, .inr (0, 0, q))) (h0 : 0 ≤ i) (hi : i < (n : Int)) (hn : n < 2147483648) (hM : q ∈ M) (hB : (bA q).1 ≤ x ∧ x ≤ (bA q).2.1) (hr : rng x) (d : DS l s0 D A dT mn rm L M To Q (TC T q i.toNat) (pc + 1) lv st (uC g q i.toNat (Int32.ofInt x))) : DS l s0 D A dT mn rm L M To Q T pc lv (.int (Int32.ofInt x) :: .int (Int32.ofInt i) :: .ref (A c) :: st) g := by
  obtain ⟨o, g', p, w⟩ := d
  exact ⟨o, g', p, fun k si s K e r b z => z_ast K.1 c h hc hb h0 hi hn (w k si _ K e (AGr_Cg r) (bd_C b hB hr) (fm_C z hM))⟩
theorem d_zast (c : Nat) {n q : Nat} {i x : Int} (h : cdA mn pc = some (.bastore, 1, 0, 0, 0)) (hc : c < 518) (hb : bsS c = .inl (2, n, .inr (0, 0, q))) (h0 : 0 ≤ i) (hi : i < (n : Int)) (hn : n < 2147483648) (hx : x = 0 ∨ x = 1) (hM : q ∈ M) (hB : (bA q).1 ≤ x ∧ x ≤ (bA q).2.1) (hr : rng x) (d : DS l s0 D A dT mn rm L M To Q (TC T q i.toNat) (pc + 1) lv st (uC g q i.toNat (Int32.ofInt x))) : DS l s0 D A dT mn rm L M To Q T pc lv (.int (Int32.ofInt x) :: .int (Int32.ofInt i) :: .ref (A c) :: st) g := by
  obtain ⟨o, g', p, w⟩ := d
  exact ⟨o, g', p, fun k si s K e r b z => z_zast K.1 c h hc hb h0 hi hn hx (w k si _ K e (AGr_Cg r) (bd_C b hB hr) (fm_C z hM))⟩
theorem d_ald2 {c r0 a0 n m : Nat} {lo hi : Int} (hw : rwB c r0 a0 n m lo hi = true) {j : Nat} {i : Int} (h : cdA mn pc = some (.iaload, 1, 0, 0, 0)) (hj : j < n) (h0 : 0 ≤ i) (hi' : i < (m : Int)) (hm : m < 2147483648) (hT : T.2 (a0 + j) i.toNat) (d : DS l s0 D A dT mn rm L M To Q T (pc + 1) lv (.int (Int32.ofInt (iC g (a0 + j) i.toNat)) :: st) g) : DS l s0 D A dT mn rm L M To Q T pc lv (.int (Int32.ofInt i) :: .ref (A (r0 + j)) :: st) g := by
  obtain ⟨o, g', p, w⟩ := d
  refine ⟨o, g', p, fun k si s K e r b z => z_ald2 K.1 hw h hj h0 hi' hm ?_⟩
  rw [show iC s (a0 + j) i.toNat = iC g (a0 + j) i.toNat from congrArg Int32.toInt (r.2 (a0 + j) _ hT)]
  exact w k si s K e r b z
theorem d_vret {z : Int} {a b : Nat} (hr : rtA mn = none) (h : cdA mn pc = some (.return_, 1, a, b, z)) (hTo : ∀ s, AGr T g s → AGr To g s) (hq : Q (.inl none) g) : DS l s0 D A dT mn rm L M To Q T pc lv [] g :=
  ⟨_, g, hq, fun k si s K e r b f => w_vret K.1.1 e (by rw [K.2.2]; exact hr) (ax_d K.1 h) (Nat.zero_le _) (Nat.zero_le _) ⟨s, rfl, rfl, b, f, hTo s r⟩⟩
theorem d_iret {z : Int} {a b : Nat} {x : Int} {ty : FieldType} (hr : rtA mn = some ty) (hn : narrow ty (.int (Int32.ofInt x)) = .int (Int32.ofInt x)) (hk : ty = .int ∨ ty = .boolean) (h : cdA mn pc = some (.ireturn, 1, a, b, z)) (hTo : ∀ s, AGr T g s → AGr To g s) (hq : Q (.inl (some (.int (Int32.ofInt x)))) g) : DS l s0 D A dT mn rm L M To Q T pc lv [.int (Int32.ofInt x)] g :=
  ⟨_, g, hq, fun k si s K e r b f => w_iret K.1.1 e (by rw [K.2.2]; exact hr) hn (ax_d K.1 h) (Nat.zero_le _) (Nat.zero_le _) ⟨s, rfl, rfl, b, f, hTo s r⟩⟩
theorem d_callS {idx cn b : Nat} {z : Int} {As : List Value} {rm' : Room} {L' M' : List Nat} {T1 : TT} {Q1 : mb_O → PS → Prop} (h : cdA mn pc = some (.invokestatic idx, 3, cn, 1, z)) (hn : mAr (miB cn) = As.length) (hM : CD l s0 D A dT cn rm' L' M' T T1 As g Q1) (hc : rm'.cells = 0 ∧ rm'.slots = 0) (hr : rm'.frames + 1 ≤ rm.frames ∧ 8 + (mNL (miB cn) + 11) + rm'.locals ≤ rm.locals) (hw : (st.map fun v => v.category).sum ≤ 8) (hL : ∀ q ∈ L', q ∈ L) (hM2 : ∀ q ∈ M', q ∈ M)
    (hE : ∀ E g1, ¬ Q1 (.inr E) g1) (d : ∀ v g1, Q1 (.inl v) g1 → DS l s0 D A dT mn rm L M To Q T1 (pc + 3) lv (v.toList ++ st) g1) : DS l s0 D A dT mn rm L M To Q T pc lv (As.reverse ++ st) g := by
  obtain ⟨o1, g1, q1, w1⟩ := hM
  rcases o1 with v | E
  · obtain ⟨o, g', q, w⟩ := d v g1 q1
    refine ⟨o, g', q, fun k si s K e r b f => ?_⟩
    refine z_callS K.1 h hn (by rw [K.2.1.1, K.2.1.2.1, K.2.1.2.2.1]; exact w1 s r b) ⟨by rw [K.2.1.2.2.2]; exact hr.1, by rw [K.2.1.2.2.2]; exact hr.2, by rw [hc.1]; exact Nat.zero_le _, by rw [hc.2]; exact Nat.zero_le _⟩ hw (fun v' t hq => ?_) (fun E t hq => ?_)
    · obtain ⟨e1, b1, f1, r1⟩ := hq
      cases e1
      rw [hc.1, hc.2]
      exact w k si t K e r1 b1 (fm_tr f (fm_tr f1 (fm_rf _ _ _) hL hM2) (fun _ h => h) (fun _ h => h))
    · cases hq.1
  · exact absurd q1 (hE E g1)
theorem d_callV (c : Nat) {idx cn b : Nat} {z : Int} {fs : List AV} {As : List Value} {rm' : Room} {L' M' : List Nat} {T1 : TT} {Q1 : mb_O → PS → Prop} (h : cdA mn pc = some (.invokevirtual idx, 3, cn, b, z)) (hn : mAr (miB cn) = As.length + 1) (hc0 : c < 518) (hb0 : bsS c = .inr (mCl (miB cn), fs)) (hM : CD l s0 D A dT cn rm' L' M' T T1 (.ref (A c) :: As) g Q1) (hc : rm'.cells = 0 ∧ rm'.slots = 0) (hr : rm'.frames + 1 ≤ rm.frames ∧ 8 + (mNL (miB cn) + 11) + rm'.locals ≤ rm.locals) (hw : (st.map fun v => v.category).sum ≤ 8) (hL : ∀ q ∈ L', q ∈ L) (hM2 : ∀ q ∈ M', q ∈ M)
    (hE : ∀ E g1, ¬ Q1 (.inr E) g1) (d : ∀ v g1, Q1 (.inl v) g1 → DS l s0 D A dT mn rm L M To Q T1 (pc + 3) lv (v.toList ++ st) g1) : DS l s0 D A dT mn rm L M To Q T pc lv (As.reverse ++ .ref (A c) :: st) g := by
  obtain ⟨o1, g1, q1, w1⟩ := hM
  rcases o1 with v | E
  · obtain ⟨o, g', q, w⟩ := d v g1 q1
    refine ⟨o, g', q, fun k si s K e r b f => ?_⟩
    refine z_callV K.1 c h hn hc0 hb0 (by rw [K.2.1.1, K.2.1.2.1, K.2.1.2.2.1]; exact w1 s r b) ⟨by rw [K.2.1.2.2.2]; exact hr.1, by rw [K.2.1.2.2.2]; exact hr.2, by rw [hc.1]; exact Nat.zero_le _, by rw [hc.2]; exact Nat.zero_le _⟩ hw (fun v' t hq => ?_) (fun E t hq => ?_)
    · obtain ⟨e1, b1, f1, r1⟩ := hq
      cases e1
      rw [hc.1, hc.2]
      exact w k si t K e r1 b1 (fm_tr f (fm_tr f1 (fm_rf _ _ _) hL hM2) (fun _ h => h) (fun _ h => h))
    · cases hq.1
  · exact absurd q1 (hE E g1)
end DR
