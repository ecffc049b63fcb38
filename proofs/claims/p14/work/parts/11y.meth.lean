/-! Methods: the interpreter's ends are the machine's -/
/-- a method with handlers of its own -/
theorem mb_ofH {y : MethodName} {rm : Room} {bytes : ByteArray} {maxL : Nat} {ret : Option FieldType} {a0 : Array Value} {K : mb_O → va_W → Prop} {ws : va_W} {hh : List (Nat × Nat × Nat × Nat)} {l : Launch} {s0 : State} {D : va_G} {tys : List (ClassId × FieldType)} {vals : List Value} (Z : z0_ok l s0 a0 D tys) (hy : plainName y.cls = true) (hn : (lg_sl vals).length ≤ maxL)
    (body : ∀ k : kx_T, kx_ok k → kL k = l → kR k = rm → kS0 k = s0 → kD k = D → kTy k = tys → kOwn k = y.cls → kCc k = bytes → kN k = maxL → (kMe k).sig.returnType = ret → (kMe k).name = y.name → (kC k).exceptionTable.toList = tableOf hh → kx_end k K rm.cells rm.slots → WS k 0 (lv_args 0 vals) [] ws 0 0) :
    MB l s0 D y (.codeWith y bytes maxL ret hh) rm vals ws K := by
  refine vx_ofWH (ws' := []) hy rfl ?_
  intro p e s m args below meth c s₁ B hml hv
  obtain ⟨rfl, hW0, hz, hq, hP, hD⟩ := hv
  have ht : c.exceptionTable.toList = tableOf hh := vx_table (x := y) B (atoms_spec (ws := [Cond.codeWith y bytes maxL ret hh]) B.pre _ List.mem_cons_self)
  have hl := lv_entry vals (n := maxL) hn
  rw [lg_entry_eq]
  generalize (lg_sl vals ++ List.replicate (maxL - (lg_sl vals).length) Slot.unset).toArray = ls at hl ⊢
  let kk : kx_T := ((p, l, e, (headSpec [Cond.codeWith y bytes maxL ret hh] rm).room, s, m, vals.toArray, below, meth, c, vx_MQ below (mb_Q s0 D K) (mb_X s0 D K) vals.toArray s rm.cells rm.slots (mb_F s0)), (s0, D, tys, y.cls, bytes, maxL))
  have hC : kx_ok kk := ⟨B.exec, B.bytes, hml, findClass_of_methodNamed B.named, hW0, va_K.moved hW0.alike Z.2.2.1, hz, hq, B.notSynchronized, fun w hw => by
    obtain ⟨h1, h2⟩ := List.mem_filter.mp hw
    exact word_at hW0 (good_of_word h2) (Z.2.1 w h1)⟩
  exact body kk hC rfl rfl rfl rfl rfl rfl rfl rfl B.returns (name_of_methodNamed B.named B.method).1 ht rfl s.heap [] ls hP hD va_S.rf hl
/-- arrays over arrays, at any later state -/
theorem arrA_moved {t : FieldType} {A A' : Array Value} {u U : State} (hvm : u.vm.Alike U.vm) (h : (Cond.arrayOver (.array t)).before A u = true) : (Cond.arrayOver (.array t)).before A' U = true := by
  obtain ⟨comp, c, k, h1, h2, h3, h4, h5⟩ := arrayOver_specB h
  obtain ⟨k', hk', he⟩ := hvm.2.2 _ _ h3
  have hi : (U.vm.classes.findIdx? fun (x : Class) => match x.kind with | .array component _ => component == comp | _ => false) = some c := by
    have e1 := va_idx_bare U.vm comp
    have e2 := va_idx_bare u.vm comp
    have eb : U.vm.bare = u.vm.bare := by first | exact hvm.bare_eq | exact hvm.bare_eq.symm
    rw [eb] at e1
    exact e1.symm.trans (e2.trans h2)
  have hkind : k'.kind = .array comp (.array t) := by rw [he]; exact h4
  have f1 : U.vm.findClass (FieldType.array t).toString = some comp := by rw [hvm.findClass]; exact h1
  have f2 : U.vm.findClass ("[" ++ (FieldType.array t).toString) = some c := by rw [hvm.findClass]; exact h5
  unfold Cond.before Cond.holds
  simp only [Cond.value]
  rw [f1, Option.bind_some]
  refine (congrArg (fun o : Option Nat => (o.bind (fun c => (U.vm.classes[c]?).map fun (k : Class) => match k.kind with | .array _ ty => decide (ty = FieldType.array t) && decide (U.vm.findClass ("[" ++ (FieldType.array t).toString) = some c) | _ => false) == some true)) hi).trans ?_
  simp [hk', hkind, f2]
/-- all that is known of the program at the law's start -/
def PX (x : ACx) (dT : Nat → ClassId) (wB : AW) (Y : Nat → MethodName) (By : Nat → ByteArray) (Rt : Nat → Option FieldType) (Hh : Nat → List (Nat × Nat × Nat × Nat)) (l : Launch) (s0 : State) (a0 : Array Value) (D : va_G) (tys : List (ClassId × FieldType)) : Prop :=
  z0_ok l s0 a0 D tys ∧ (∀ t, tys[min t 5]? = some (dT t, tyF t)) ∧ (∀ i, scC wB (xB x i)) ∧ (Cond.arrayOver (.object RX0) ∈ lw_tbl ∧ Cond.arrayOver (.array .int) ∈ lw_tbl ∧ Cond.arrayOver (.array (.array .int)) ∈ lw_tbl) ∧
  (∀ mn pc r, xCd x mn pc = some r → rowQ x Y By Rt Hh mn pc r ∧ plainName (Y mn).cls = true ∧ (mRt (xM x mn) = 0 → Rt mn = none) ∧ (mRt (xM x mn) = 1 → Rt mn = some .int) ∧ (mRt (xM x mn) = 2 → Rt mn = some .boolean) ∧ (mRt (xM x mn) = 3 → Rt mn = some .long) ∧
    (Hh mn = [] → ∀ pc e, xEx x mn pc e = none) ∧ (Hh mn ≠ [] → ∀ k : kx_T, kx_ok k → z0_ok (kL k) (kS0 k) a0 (kD k) (kTy k) → kS0 k = s0 → kOwn k = (Y mn).cls → (kC k).exceptionTable.toList = tableOf (Hh mn) → ∀ pc, exX k x mn pc))
/-- what is known of a contract's answers -/
def CX (x : ACx) (dT : Nat → ClassId) (wB : AW) (vP : VL) (Y : Nat → MethodName) (By : Nat → ByteArray) (Rt : Nat → Option FieldType) (Hh : Nat → List (Nat × Nat × Nat × Nat)) (l : Launch) (s0 : State) (D : va_G) : Prop :=
  ∀ (mn : Nat) (as : List AV) (w : AW) (rs : List AR) (v : VL), xCt x mn as w = some rs → okW (xB x) v w → agr wB vP v → scL w as → wle wB w → (argF as).length ≤ mNL (xM x mn) →
    MB l s0 D (Y mn) (cdX x Y By Rt Hh mn) (mRm (xM x mn)) (as.map (cv v)) (cW v dT (xB x) (wH w)) (Kd x dT w v rs)
section MT
variable {x : ACx} {dT : Nat → ClassId} {wB : AW} {vP : VL} {Y : Nat → MethodName} {By : Nat → ByteArray} {Rt : Nat → Option FieldType} {Hh : Nat → List (Nat × Nat × Nat × Nat)} {l : Launch} {s0 : State} {a0 : Array Value} {D : va_G} {tys : List (ClassId × FieldType)}
theorem WS_sub {k : kx_T} {pc : Nat} {lv lv' : List (Nat × Value)} {st : List Value} {ws : va_W} {ce sl : Nat} (hs : ∀ q ∈ lv, q ∈ lv') (h : WS k pc lv st ws ce sl) : WS k pc lv' st ws ce sl :=
  fun H locs ls hP hD hS hl => h H locs ls hP hD hS (lv_mono hl hs)
theorem run_some {cf : Nat → Nat → Option AF} (hcf : cfX cf x) {call : Nat → Nat → List AV → AW → Option (List AR)} {mn c n : Nat} {s : AS} {rs : List AR} (h : oRun cf x call mn c n s = some rs) : ∃ r, xCd x mn (sPc s) = some r := by
  cases n with
  | zero => cases h
  | succ n =>
    replace h : (match oStep cf x call mn c s with
      | some (ss, q) => oLoop cf x call mn c n (ss ++ []) (q ++ [])
      | none => none) = some rs := h
    unfold oStep at h
    cases hc : cf mn (sPc s) with
    | none => rw [hc] at h; cases h
    | some f =>
      obtain ⟨r, hr, -⟩ := hcf _ _ _ hc
      exact ⟨r, hr⟩
/-- the body of a method, in an activation -/
theorem body_ok {cf : Nat → Nat → Option AF} (hcf : cfX cf x) (P : PX x dT wB Y By Rt Hh l s0 a0 D tys) (hSc : ∀ mn, xSc x mn = 0) {call : Nat → Nat → List AV → AW → Option (List AR)} (hcall : ∀ (c mn : Nat) (as : List AV) (w : AW) (rs : List AR) (v : VL), call c mn as w = some rs → okW (xB x) v w → agr wB vP v → scL w as → wle wB w → (argF as).length ≤ mNL (xM x mn) →
      MB l s0 D (Y mn) (cdX x Y By Rt Hh mn) (mRm (xM x mn)) (as.map (cv v)) (cW v dT (xB x) (wH w)) (Kd x dT w v rs))
    {c mn n : Nat} {as : List AV} {w : AW} {rs : List AR} {v : VL} (h : oRun cf x call mn c n (0, argsL (mNL (xM x mn)) as, [], w, [], 0, 0) = some rs) (hw : okW (xB x) v w) (hA : agr wB vP v) (hs : scL w as) (hB : wle wB w) (hn : (argF as).length ≤ mNL (xM x mn))
    (k : kx_T) (C : kx_ok k) (e1 : kL k = l) (e2 : kR k = mRm (xM x mn)) (e3 : kS0 k = s0) (e4 : kD k = D) (e5 : kTy k = tys) (e6 : kOwn k = (Y mn).cls) (e7 : kCc k = By mn) (e8 : kN k = mNL (xM x mn)) (e9 : (kMe k).sig.returnType = Rt mn) (e10 : (kMe k).name = (Y mn).name)
    (hx : ∀ pc, exX k x mn pc) (hxe : Hh mn = [] → ∀ z ∈ (kC k).exceptionTable.toList, False) (qe : keX k x mn dT w v rs) : WS k 0 (lv_args 0 (as.map (cv v))) [] (cW v dT (xB x) (wH w)) 0 0 := by
  obtain ⟨Z, hT, hBB, ⟨o1, o2, o3⟩, hrow⟩ := P
  obtain ⟨r0, hr0⟩ := run_some hcf h
  obtain ⟨-, -, t0, t1, t2, t3, -⟩ := hrow mn _ r0 hr0
  subst e1; subst e3; subst e4; subst e5
  have al := C.2.2.2.2.1.alike
  have M : MX k x mn dT w v rs wB Y By Rt Hh a0 := ⟨⟨C, Z, ⟨by rw [e2]; rfl, by rw [e2]; rfl, by rw [e2]; rfl, by rw [e2]; rfl⟩, hT, hBB, hB, qe, Or.inl (hSc mn)⟩,
    ⟨⟨fun q => e9.trans (t0 q), fun q => e9.trans (t1 q), fun q => e9.trans (t2 q), fun q => e9.trans (t3 q)⟩, hx, hxe, e7, e6, e10⟩,
    va_AO.moved al (va_AO.of (Z.2.1 _ o1)), arrA_moved al (Z.2.1 _ o2), arrA_moved al (Z.2.1 _ o3)⟩
  have hc : callX k x mn dT wB w v Y By Rt Hh call := fun cn as' w' rs' v' q1 q2 qa q3 q4 q5 => hcall mn cn as' w' rs' v' q1 q2 (agr_tr hA (agr_mono qa hB)) q3 q4 q5
  have g := (run_ok (c := c) hcf M hc (fun pc r q => (hrow mn pc r q).1) n _ _ rs h (fun r hr => hr)).1 _ List.mem_cons_self
  have hi : Inv k x mn c dT w v (0, argsL (mNL (xM x mn)) as, [], w, [], 0, 0) v :=
    ⟨wle_rf _, agr_rf _ _, hw, argsL_sc hs, fun z hz => absurd hz List.not_mem_nil, (argsL_len hn).trans e8.symm, fun p hp => absurd hp List.not_mem_nil⟩
  exact WS_sub argsL_lv (g v hi)
theorem meth_ok {cf : Nat → Nat → Option AF} (hcf : cfX cf x) (P : PX x dT wB Y By Rt Hh l s0 a0 D tys) (hSc : ∀ mn, xSc x mn = 0) (Ct : CX x dT wB vP Y By Rt Hh l s0 D) : ∀ (d c mn : Nat) (as : List AV) (w : AW) (rs : List AR) (v : VL), oMeth cf x d c mn as w = some rs → okW (xB x) v w → agr wB vP v → scL w as → wle wB w → (argF as).length ≤ mNL (xM x mn) →
      MB l s0 D (Y mn) (cdX x Y By Rt Hh mn) (mRm (xM x mn)) (as.map (cv v)) (cW v dT (xB x) (wH w)) (Kd x dT w v rs)
  | 0, c, mn, as, w, rs, v, h, _, _, _, _, _ => by cases h
  | d + 1, c, mn, as, w, rs, v, h, hw, hA, hs, hB, hn => by
    replace h : (match xCt x mn as w with
      | some rs => some rs
      | none => oRun cf x (oMeth cf x d) mn c 1000000 (0, argsL (mNL (xM x mn)) as, [], w, [], 0, 0)) = some rs := h
    cases hct : xCt x mn as w with
    | some q =>
      rw [hct] at h
      cases h
      exact Ct mn as w rs v hct hw hA hs hB hn
    | none =>
      rw [hct] at h
      replace h : oRun cf x (oMeth cf x d) mn c 1000000 (0, argsL (mNL (xM x mn)) as, [], w, [], 0, 0) = some rs := h
      generalize 1000000 = fuel at h
      have hcall := meth_ok hcf P hSc Ct d
      obtain ⟨r0, hr0⟩ := run_some hcf h
      obtain ⟨-, hy, -, -, -, -, h0, h1⟩ := P.2.2.2.2 mn _ r0 hr0
      have hlen : (lg_sl (as.map (cv v))).length ≤ mNL (xM x mn) := by rw [argF_len]; exact hn
      unfold cdX
      cases hh : Hh mn with
      | nil =>
        exact mb_of P.1 hy hlen (fun k C e1 e2 e3 e4 e5 e6 e7 e8 e9 e10 e11 qe => body_ok hcf P hSc hcall h hw hA hs hB hn k C e1 e2 e3 e4 e5 e6 e7 e8 e9 e10 (exX_no (h0 hh) e11) (fun _ => e11) ⟨_, qe, fun _ _ h => h⟩)
      | cons a t =>
        have hne : Hh mn ≠ [] := by rw [hh]; exact List.cons_ne_nil _ _
        exact mb_ofH P.1 hy hlen (fun k C e1 e2 e3 e4 e5 e6 e7 e8 e9 e10 e11 qe => body_ok hcf P hSc hcall h hw hA hs hB hn k C e1 e2 e3 e4 e5 e6 e7 e8 e9 e10 (h1 hne k C (by rw [e1, e3, e4, e5]; exact P.1) e3 e6 (by rw [hh]; exact e11)) (fun q => absurd q hne) ⟨_, qe, fun _ _ h => h⟩)
end MT
