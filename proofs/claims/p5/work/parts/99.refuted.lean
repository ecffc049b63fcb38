/-! THE REFUTATION: on the script rXs, out of the start rAbout, the law comes to its end with 0 -/
def R_law : String := "SkyCutsLaw"
def lw_P (b : Addr) (args : Array Value) (s : State) : Prop := args = #[.ref b] ∧ s.IntsAt b rXs ∧ (Jvm.Cond.and given_1 narrow_1).before args s = true
def lw_Q (_ : Array Value) (_ : State) (o : Outcome) (_ : State) : Prop := o = .returned (some (.int 0))
def lw_Z (below : List Frame) (a : Array Value) (s : State) : State → Prop := fun t => ∃ o, t.status = .running ∧ Ended t below o ∧ lw_Q a s o t
/-- what holds at the law's entry -/
def lw_At (p : Program) (s : State) (m : MethodId) (meth : Method) (c : Code) (b L : Nat) (xs : Nat → Int32) : Prop :=
  p.tables.exec = Jvm.exec ∧ c.code = code ∧ meth.sig.returnType = ret ∧ c.maxLocals = 7 ∧ s.vm.findClass R_law = some m.cls ∧ (∀ w ∈ lw_tbl, w.before #[Value.ref b] s = true) ∧ va_X b L xs s s.heap ∧ b < s.heap.size ∧ meth.locks = false ∧ (Jvm.Cond.and given_1 narrow_1).before #[Value.ref b] s = true
theorem lw_conv {s : State} {D : va_G} {below : List Frame} {a : Array Value} {t : State} (h : vx_MQ below (mb_Q s D K0) (mb_X s D K0) a s 601024 7293034 (mb_F s) t) : lw_Z below a s t := by
  obtain ⟨o, h1, h2, h3⟩ := h
  refine ⟨o, h1, h2, ?_⟩
  rcases h3 with ⟨⟨v, ws, hv, hK, -⟩, L, ⟨-, hW, hs⟩, hL⟩ | ⟨q, hq, E, ce, L, ⟨ws, hK, -⟩, -⟩
  · have e : v = some (.int 0) := Sum.inl.inj hK
    subst e
    exact hv
  · cases hK
/-- from the entry, on this script, the law comes to its end -/
theorem whole_start {p : Program} {e : Env} {s : State} {m : MethodId} {below : List Frame} {meth : Method} {c : Code} (l : Launch) (hl : l.stackTraces = false) {b : Nat} {xs : Nat → Int32} (hR : okR xs) (C0 : lw_At p s m meth c b 156 xs) (hxt : ∀ z ∈ c.exceptionTable.toList, False) (hnm : meth.name = "law") : W p l e room_1 s m #[Value.ref b] below meth c s.heap [] 0 0 (lw_Z below #[Value.ref b] s) (entryFrame m ([Value.ref b] : List Value).toArray 7) := by
  obtain ⟨hx, hb, hr, hml, hown, hts, hX, hbl, hlk, hgv⟩ := C0
  obtain ⟨D, tys, dT, Z, hT, hNc⟩ := start_ok (a0 := #[Value.ref b]) hl hts (flat_of_before _ hgv)
  let kk : kx_T := ((p, l, e, room_1, s, m, #[Value.ref b], below, meth, c, vx_MQ below (mb_Q s D K0) (mb_X s D K0) #[Value.ref b] s 601024 7293034 (mb_F s)), (s, D, tys, RL, code, 7))
  have hC : kx_ok kk := ⟨hx, hb, hml, hown, State.WarmedH.refl s, Z.2.2.1, Nat.le_refl _, fun _ _ => rfl, hlk, fun w hw => hts w (gT_in hw)⟩
  have X : LX kk dT #[Value.ref b] b 156 xs := ⟨⟨hC, Z, hT, hNc, rfl, rfl, rfl, rfl⟩, ⟨hr, hnm, hxt, rfl⟩, hX, hbl, Nat.not_le.mpr hbl⟩
  have main := law_entry X hR (Nat.le_refl _) (head_R X)
  have hl7 := lv_entry [Value.ref b] (n := 7) (show 1 ≤ 7 by decide)
  rw [lg_entry_eq]
  generalize (lg_sl [Value.ref b] ++ List.replicate (7 - (lg_sl [Value.ref b]).length) Slot.unset).toArray = ls at hl7 ⊢
  intro T hT' X'
  obtain ⟨t, a1, b1⟩ := main s.heap [] ls (fun j x hx => by cases hx) ⟨(fun i j x z hx => by cases hx), (fun j x hx => by cases hx)⟩ va_S.rf hl7 T hT' X'
  exact ⟨t, a1, lw_conv b1⟩
theorem rXs_len : rXs.length = 156 := by decide +kernel
set_option maxHeartbeats 4000000 in
theorem lw_walk (l : Launch) (hl : l.stackTraces = false) (b : Addr) : MetFree l x (headSpec (Jvm.Cond.code x code maxLocals ret :: tables_1) room_1) (lw_P b) (fun _ _ _ _ _ => True) lw_Q := by
  refine MetFree.of_bodyS (code := code) (maxLocals := maxLocals) (ret := ret) (by decide) ?_ ?_
  · intro args s m h hn
    obtain ⟨meth, c, h1, h2, h3, h4, h5, h6, -, -⟩ := Cond.code_spec hn (atoms_spec (ws := Jvm.Cond.code x code maxLocals ret :: tables_1) h _ List.mem_cons_self)
    exact ⟨meth, c, h1, h2, h3, h4, h5, h6⟩
  · intro p e s m args below meth c s₁ B hml0 hP _
    obtain ⟨rfl, hx, hgv⟩ := hP
    obtain ⟨scr, harrAt, hlist, hof, hsmall⟩ := hx
    obtain ⟨hcb, hkn, -, -⟩ := State.arrayAt?_spec harrAt
    have hown : s.vm.findClass R_law = some m.cls := findClass_of_methodNamed B.named
    have hts0 : ∀ c ∈ (Jvm.Cond.code x code maxLocals ret :: tables_1), c.before #[Value.ref b] s = true := atoms_spec (ws := Jvm.Cond.code x code maxLocals ret :: tables_1) B.pre
    have hts : ∀ w ∈ lw_tbl, w.before #[Value.ref b] s = true := k2_hts_sels lw_privs (fun w hw => hts0 w (List.mem_cons_of_mem _ hw)) lw_privs_ok
    have hml : c.maxLocals = 7 := B.maxLocals_eq (hts0 _ List.mem_cons_self)
    have hxt : ∀ z ∈ c.exceptionTable.toList, False := by
      obtain ⟨meth9, c9, g1, g2, -, -, -, -, g7, -⟩ := Cond.code_spec B.named (hts0 _ List.mem_cons_self)
      cases Option.some.inj (g1.symm.trans B.method)
      cases Option.some.inj (g2.symm.trans (Stand.of_body B).code)
      intro z hz
      rw [Array.isEmpty_iff.mp g7] at hz
      cases hz
    have X₀ : Stand p l e room_1 s m #[Value.ref b] below meth c s₁ [] 0 0 := Stand.of_body B
    have hh0 : s₁.heap = s.heap := by rw [B.state]; rfl
    have hsz : scr.slots.size = rXs.length := by rw [← Array.length_toList, hlist, List.length_map]
    have hval : ∀ j : Nat, j < 156 → scr.slots[j]? = some (.int (rXs.getD j 0)) := fun j hj => by
      rw [← rXs_len] at hj
      rw [← Array.getElem?_toList, hlist]
      simp [hj]
    have hbl : b < s.heap.size := (Array.getElem?_eq_some_iff.mp hcb).1
    have hX : va_X b 156 (fun j => rXs.getD j 0) s s.heap := ⟨scr, hcb, hof, hkn, hsz.trans rXs_len, hval⟩
    have K : W p l e room_1 s m #[Value.ref b] below meth c s₁.heap [] 0 0 (lw_Z below #[Value.ref b] s) (entryFrame m ([Value.ref b] : List Value).toArray 7) := by
      rw [hh0]
      exact whole_start l hl okR_X ⟨B.exec, B.bytes, B.returns, hml, hown, hts, hX, hbl, B.notSynchronized, hgv⟩ hxt (name_of_methodNamed B.named B.method).1
    obtain ⟨t, a1, o, b1, b2, b3⟩ := K s₁ rfl X₀
    exact ⟨t, o, a1, b1, b2, b3⟩
theorem r_flags : launch0.flags = flags0 := by decide +kernel
theorem r_post {tb : Tables} {e : Env} {a : Array Value} {s t : State} : ¬ Post_1_2 tb e a s (.returned (some (.int 0))) t := fun h => by
  have h1 := Cond.after_iff.mp h.1
  rw [show limb_1_2 = Jvm.Cond.eq .result (.int 1) from rfl, Cond.eq_ints (x := 0) (y := 1) rfl rfl] at h1
  exact absurd h1 (by decide)
/-- the Statement's own word: the second claim falls -/
theorem refuted_1_2 : RefutedClaimed_1_2 := by
  have hl : launch0.stackTraces = false := by unfold Launch.stackTraces; rw [r_flags]; decide +kernel
  have S := r_start
  obtain ⟨h1, h2, h3, h4, h5, h6, h7, h8, h9, h10, h11, h12, h13⟩ := S
  obtain ⟨k, o, g1, g2, g3, hQ⟩ := lw_walk launch0 hl 0 start1.p0 start1.e0 h3 h5 h6 rAbout ⟨0, 0⟩ start1.args0 Lib.HandBits.below0 h7 ((Spec.applies_iff_loose h7).mp h10).1 ⟨rfl, r_ints, r_given⟩ trivial
  cases hQ
  exact ⟨launch0, start1.p0, start1.e0, rAbout, ⟨0, 0⟩, start1.args0, Lib.HandBits.below0, r_flags, r_start, k, _, g1, g2, g3, r_post⟩
/-- so the statement that is owed is false -/
theorem i_vc_false : ¬ (Claimed_1_1 ∧ Claimed_1_2) := by
  rintro ⟨-, h⟩
  obtain ⟨l, p, e, s, m, args, below, hf, S, n, o, g1, -, g3, hno⟩ := refuted_1_2
  obtain ⟨h1, h2, h3, h4, h5, h6, h7, h8, h9, h10, h11, h12, h13⟩ := S
  obtain ⟨n', o', q1, -, q3, hP⟩ := h l hf h1 h2 p e h3 h5 h6 s m args below h7 h8 h9 h10 ⟨h11, h12, h13⟩
  obtain ⟨rfl, rfl⟩ := the_end_unique (f := fun k => stepsAlone p.tables e k s) g1 g3 q1 q3
  exact hno hP
