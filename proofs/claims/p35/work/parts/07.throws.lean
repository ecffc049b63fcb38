/-! Layer 1: what is known at the law's start; throws, catches; a method's whole run out of its body -/
abbrev ex_N : List String := ["java/lang/RuntimeException", "java/lang/Exception"]
/-- words of a throw that last by laws of their own -/
def exB (E : String) : List Cond := [.castable E E, .declares (Bundle.initS "java/lang/RuntimeException"), .declares (Bundle.initS "java/lang/Exception"), .declares (Bundle.initS Bundle.tN)]
/-- an exception class E, made by 'new ik', 'invokespecial ic' in the class SkyCuts; its constructor's bytes, and where it links its super's -/
def ex_ok (ik ic : Nat) (E : String) (ix : Nat) (rx : ByteArray) : Prop :=
  Bundle.fit E = true ∧ Cond.classLink RX11 ik E ∈ gT ∧ Cond.initialized E ∈ gT ∧ (∀ w ∈ (vx_atX RX11 ic E ix rx ex_N).filter goodWord, w ∈ gT) ∧ (∀ w ∈ (vx_atX RX11 ic E ix rx ex_N).filter (fun w => !goodWord w), w ∈ exB E) ∧ (∀ w ∈ exB E, w ∈ lw_tbl) ∧
  (∀ w ∈ Cond.classLink RX11 ik E :: Cond.initialized E :: vx_atX RX11 ic E ix rx ex_N, vx_ot w = true) ∧
  decode rx 0 = .ok (.aload_n 0, 1) ∧ decode rx 1 = .ok (.aload_n 1, 1) ∧ decode rx 2 = .ok (.invokespecial ix, 3) ∧ decode rx 5 = .ok (.return_, 1)
/-- the law's start -/
def z0_ok (l : Launch) (s0 : State) (a0 : Array Value) (D : va_G) (tys : List (ClassId × FieldType)) : Prop :=
  l.stackTraces = false ∧ (∀ w ∈ lw_tbl, w.before a0 s0 = true) ∧ va_K D vwCl tys s0 ∧ vx_Zq Bundle.tN "UNASSIGNED_STACK" Bundle.steD (mb_F s0) s0 s0.heap ∧ vx_Zq Bundle.tN "SUPPRESSED_SENTINEL" Bundle.listD (mb_F s0) s0 s0.heap ∧
  (∀ (i : Nat) (t : String), Cond.stringRef RX11 i t ∈ lw_tbl → ∃ sa, vk_R RX11 i t sa s0)
section L4
variable {k : kx_T} {pc : Nat} {lv : List (Nat × Value)} {st : List Value} {ws : va_W} {ce sl : Nat} {K : mb_O → va_W → Prop} {y : MethodName} {rm : Room} {bytes : ByteArray} {maxL : Nat} {ret : Option FieldType} {a0 : Array Value}
theorem kx_Zq (C : kx_ok k) {c n d : String} (h : vx_Zq c n d (mb_F (kS0 k)) (kS0 k) (kS0 k).heap) : vx_Zq c n d (kF k) (kS k) (kS k).heap :=
  (h.moved C.2.2.2.2.1.alike).kept (fun a ha _ => C.2.2.2.2.2.2.2.1 a ha)
theorem kx_cast (C : kx_ok k) (Z : z0_ok (kL k) (kS0 k) a0 (kD k) (kTy k)) {E F : String} (h : Cond.castable E F ∈ lw_tbl) : (Cond.castable E F).before (kA k) (kS k) = true :=
  va_Nw.use rfl (va_Nw.warmC C.2.2.2.2.1 (va_Nw.of rfl (Z.2.1 _ h)))
theorem kx_exB (C : kx_ok k) (Z : z0_ok (kL k) (kS0 k) a0 (kD k) (kTy k)) {E : String} (h : ∀ w ∈ exB E, w ∈ lw_tbl) : ∀ w ∈ exB E, w.before (kA k) (kS k) = true := by
  have dc : ∀ {y : MethodName}, Cond.declares y ∈ lw_tbl → (Cond.declares y).before (kA k) (kS k) = true := fun hy => va_Nw.use rfl (va_Nw.warmD C.2.2.2.2.1 (va_Nw.of rfl (Z.2.1 _ hy)))
  intro w hw
  have hm := h w hw
  simp only [exB, List.mem_cons, List.not_mem_nil, or_false] at hw
  rcases hw with e | e | e | e
  · subst e; exact kx_cast C Z hm
  · subst e; exact dc hm
  · subst e; exact dc hm
  · subst e; exact dc hm
theorem w_throw (C : kx_ok k) (Z : z0_ok (kL k) (kS0 k) a0 (kD k) (kTy k)) {ik ic is mc ms ix : Nat} {rx : ByteArray} {E text : String} (hE : ex_ok ik ic E ix rx) (ho : kOwn k = RX11) (hs : Cond.stringRef RX11 is text ∈ lw_tbl) (q : kx_end k K mc ms) (hout : ∀ x ∈ (kC k).exceptionTable.toList, covers x (pc + 9) = false)
    (d0 : decode (kCc k) pc = .ok (.new ik, 3)) (d3 : decode (kCc k) (pc + 3) = .ok (.dup, 1)) (d4 : decode (kCc k) (pc + 4) = .ok (.ldc is, 2)) (d6 : decode (kCc k) (pc + 6) = .ok (.invokespecial ic, 3)) (d9 : decode (kCc k) (pc + 9) = .ok (.athrow, 1))
    (r1 : 5 < (kR k).frames) (r2 : (st.map fun v => v.category).sum + 82 ≤ (kR k).locals) (r3 : ce + 1 ≤ (kR k).cells) (r4 : sl + 6 ≤ (kR k).slots) (r5 : ce + 1 ≤ mc) (r6 : sl + 6 ≤ ms) (h : K (.inr E) ws) : WS k pc lv st ws ce sl := by
  intro H locs ls hP hD hS hl
  obtain ⟨e1, e2, e3, e4, e5, e6, e7, x0, x1, x2, x5⟩ := hE
  obtain ⟨sa, hsa⟩ := Z.2.2.2.2.2 is text hs
  have hown : (kS k).vm.findClass RX11 = some (kM k).cls := by rw [← ho]; exact C.2.2.2.1
  have hat : ∀ w ∈ vx_atX RX11 ic E ix rx ex_N, w.before (kA k) (kS k) = true := vx_hat (fun w hw => kx_wd C w (e4 w hw)) e5 (kx_exB C Z e6)
  show W _ _ _ _ _ _ _ _ _ _ _ _ _ _ (kQ k) _
  rw [q]
  refine vx_throwX (own := RX11) (cls := E) (text := text) (names := ex_N) (ik := ik) (is := is) (ic := ic) (sa := sa) (A := kF k) C.1 C.2.1 Z.1 x0 x1 x2 x5 hown e1 (by decide +kernel) (kx_wd C _ e2) (kx_wd C _ e3) (hsa.warm C.2.2.2.2.1) hat e7 (kx_Zq C Z.2.2.2.1) (kx_Zq C Z.2.2.2.2.1) hS (hl.1.trans C.2.2.1.symm) d0 d3 d4 d6 d9 hout r1 r2 r3 r4 C.2.2.2.2.2.2.2.2.1 (fun t hvm hz hq => ?_) (fun z hz => hS.2.2 z hz) r5 r6
  refine ⟨ws, h, hP.kept (fun j x hx => hq x.1 ((hP j x hx).lt)), hD, Nat.le_trans hS.1 hz, fun a ha hn => ?_⟩
  rw [hq a (Nat.lt_of_lt_of_le ha hS.1)]
  exact hS.2.1 a ha hn
theorem w_throwW (C : kx_ok k) (Z : z0_ok (kL k) (kS0 k) a0 (kD k) (kTy k)) {ik ic is mc ms ix : Nat} {rx : ByteArray} {E text : String} (hE : ex_ok ik ic E ix rx) (ho : kOwn k = RX11) (hs : Cond.stringRef RX11 is text ∈ lw_tbl) (q : kx_end k K mc ms) (hout : ∀ x ∈ (kC k).exceptionTable.toList, covers x (pc + 10) = false)
    (d0 : decode (kCc k) pc = .ok (.new ik, 3)) (d3 : decode (kCc k) (pc + 3) = .ok (.dup, 1)) (d4 : decode (kCc k) (pc + 4) = .ok (.ldc_w is, 3)) (d6 : decode (kCc k) (pc + 7) = .ok (.invokespecial ic, 3)) (d9 : decode (kCc k) (pc + 10) = .ok (.athrow, 1))
    (r1 : 5 < (kR k).frames) (r2 : (st.map fun v => v.category).sum + 82 ≤ (kR k).locals) (r3 : ce + 1 ≤ (kR k).cells) (r4 : sl + 6 ≤ (kR k).slots) (r5 : ce + 1 ≤ mc) (r6 : sl + 6 ≤ ms) (h : K (.inr E) ws) : WS k pc lv st ws ce sl := by
  intro H locs ls hP hD hS hl
  obtain ⟨e1, e2, e3, e4, e5, e6, e7, x0, x1, x2, x5⟩ := hE
  obtain ⟨sa, hsa⟩ := Z.2.2.2.2.2 is text hs
  have hown : (kS k).vm.findClass RX11 = some (kM k).cls := by rw [← ho]; exact C.2.2.2.1
  have hat : ∀ w ∈ vx_atX RX11 ic E ix rx ex_N, w.before (kA k) (kS k) = true := vx_hat (fun w hw => kx_wd C w (e4 w hw)) e5 (kx_exB C Z e6)
  show W _ _ _ _ _ _ _ _ _ _ _ _ _ _ (kQ k) _
  rw [q]
  refine vx_throwXW (own := RX11) (cls := E) (text := text) (names := ex_N) (ik := ik) (is := is) (ic := ic) (sa := sa) (A := kF k) C.1 C.2.1 Z.1 x0 x1 x2 x5 hown e1 (by decide +kernel) (kx_wd C _ e2) (kx_wd C _ e3) (hsa.warm C.2.2.2.2.1) hat e7 (kx_Zq C Z.2.2.2.1) (kx_Zq C Z.2.2.2.2.1) hS (hl.1.trans C.2.2.1.symm) d0 d3 d4 d6 d9 hout r1 r2 r3 r4 C.2.2.2.2.2.2.2.2.1 (fun t hvm hz hq => ?_) (fun z hz => hS.2.2 z hz) r5 r6
  refine ⟨ws, h, hP.kept (fun j x hx => hq x.1 ((hP j x hx).lt)), hD, Nat.le_trans hS.1 hz, fun a ha hn => ?_⟩
  rw [hq a (Nat.lt_of_lt_of_le ha hS.1)]
  exact hS.2.1 a ha hn
/-- caught by a row of the method's own table -/
theorem x_catch (C : kx_ok k) (Z : z0_ok (kL k) (kS0 k) a0 (kD k) (kTy k)) {E name : String} (pre : List ExceptionTableEntry) (x : ExceptionTableEntry) (suf : List ExceptionTableEntry) (hsplit : (kC k).exceptionTable.toList = pre ++ x :: suf)
    (hpass : ∀ z ∈ pre, covers z pc = false ∨ (z.catchType ≠ 0 ∧ ∃ nm : String, Cond.classLink (kOwn k) z.catchType nm ∈ gT ∧ va_Nc E nm (kS k))) (hx : covers x pc = true) (h0 : x.catchType ≠ 0)
    (hlink : Cond.classLink (kOwn k) x.catchType name ∈ gT) (hcast : Cond.castable E name ∈ lw_tbl) (h : ∀ q : Nat, WS k x.handlerPc lv [.ref q] ws ce sl) : WX k pc lv st ws E ce sl := by
  intro H locs ls q cell hP hD hS hl hc hv hcl
  exact vx_catch C.2.2.2.1 pre x suf hsplit (fun z hz => (hpass z hz).imp id (fun ⟨a, nm, b, c⟩ => ⟨a, nm, kx_wd C _ b, c⟩)) hx h0 (kx_wd C _ hlink) (kx_cast C Z hcast) hc hv hcl (h q H locs ls hP hD hS hl)
theorem w_callIN (C : kx_ok k) (Z : z0_ok (kL k) (kS0 k) a0 (kD k) (kTy k)) {idx n b : Nat} {host : String} {As : List Value} (hlk : Cond.methodLinkNest (kOwn k) idx y host ∈ lw_tbl) (hcd : Cond.code y bytes maxL none ∈ gT) (hin : Cond.initialized y.cls ∈ gT) (hd : y.cls ≠ "java/lang/invoke/MethodHandle" ∧ y.cls ≠ "java/lang/invoke/VarHandle" ∧ (parseMethodDescriptor y.desc).map (fun d => d.parameters.length) = some n)
    (hR : rm.frames + 1 ≤ (kR k).frames ∧ 8 + (maxL + 11) + rm.locals ≤ (kR k).locals) (hy : y.name = "<init>") (hi : Cond.instanceMethod y ∈ gT) (hM : MB (kL k) (kS0 k) (kD k) y (.code y bytes maxL none) rm (.ref b :: As) ws K) (hx : ∀ E ws', ¬ K (.inr E) ws')
    (hn : As.length = n) (hw : (st.map fun v => v.category).sum ≤ 8) (hf : ce + rm.cells ≤ (kR k).cells ∧ sl + rm.slots ≤ (kR k).slots) (d : decode (kCc k) pc = .ok (.invokespecial idx, 3))
    (h1 : ∀ v ws', K (.inl v) ws' → WS k (pc + 3) lv (v.toList ++ st) ws' (ce + rm.cells) (sl + rm.slots)) : WS k pc lv (As.reverse ++ .ref b :: st) ws ce sl := by
  intro H locs ls hP hD hS hl
  have hl0 : va_Nw (.methodLinkNest (kOwn k) idx y host) (kS k) := va_Nw.warmM C.2.2.2.2.1 (va_Nw.of rfl (Z.2.1 _ hlk))
  refine w_runM (K := K) hl hS (va_runIN (As := As) (rest := st) ⟨C.1, C.2.1, C.2.2.1, C.2.2.2.1, kx_wd C⟩ (mb_noX hM hx) ⟨va_cnB (host := host) n (kx_wd C) (fun w hw => by
    rw [List.mem_singleton.mp hw]
    exact ⟨hcd, good_of_word (List.mem_filter.mp hcd).2⟩) rfl rfl rfl hl0 (kx_wd C _ hin) hd hR, hy, kx_wd C _ hi⟩ ⟨mb_blind, fun U hU hW => ⟨rfl, kx_B C hP hD hS U hU hW⟩⟩ rfl hn hl.1 rfl ?_ d hf) h1
  simpa using hw
/-- a method's run out of the walk of its body -/
theorem mb_of {l : Launch} {s0 : State} {D : va_G} {tys : List (ClassId × FieldType)} {vals : List Value} (Z : z0_ok l s0 a0 D tys) (hy : plainName y.cls = true) (hn : (lg_sl vals).length ≤ maxL)
    (body : ∀ k : kx_T, kx_ok k → kL k = l → kR k = rm → kS0 k = s0 → kD k = D → kTy k = tys → kOwn k = y.cls → kCc k = bytes → kN k = maxL → (kMe k).sig.returnType = ret → (kMe k).name = y.name → (∀ x ∈ (kC k).exceptionTable.toList, False) → kx_end k K rm.cells rm.slots → WS k 0 (lv_args 0 vals) [] ws 0 0) :
    MB l s0 D y (.code y bytes maxL ret) rm vals ws K := by
  refine vx_ofW (ws' := []) hy rfl ?_
  intro p e s m args below meth c s₁ B hml ht hv
  obtain ⟨rfl, hW0, hz, hq, hP, hD⟩ := hv
  have hl := lv_entry vals (n := maxL) hn
  rw [lg_entry_eq]
  generalize (lg_sl vals ++ List.replicate (maxL - (lg_sl vals).length) Slot.unset).toArray = ls at hl ⊢
  let kk : kx_T := ((p, l, e, (headSpec [Cond.code y bytes maxL ret] rm).room, s, m, vals.toArray, below, meth, c, vx_MQ below (mb_Q s0 D K) (mb_X s0 D K) vals.toArray s rm.cells rm.slots (mb_F s0)), (s0, D, tys, y.cls, bytes, maxL))
  have hC : kx_ok kk := ⟨B.exec, B.bytes, hml, findClass_of_methodNamed B.named, hW0, va_K.moved hW0.alike Z.2.2.1, hz, hq, B.notSynchronized, fun w hw => by
    obtain ⟨h1, h2⟩ := List.mem_filter.mp hw
    exact word_at hW0 (good_of_word h2) (Z.2.1 w h1)⟩
  exact body kk hC rfl rfl rfl rfl rfl rfl rfl rfl B.returns (name_of_methodNamed B.named B.method).1 ht rfl s.heap [] ls hP hD va_S.rf hl
end L4
