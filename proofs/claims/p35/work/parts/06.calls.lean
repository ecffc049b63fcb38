/-! Layer 1: methods by their whole run, calls, returns, throws -/
/-- how a method ends: with a value (or none), or by an exception of a class -/
abbrev mb_O : Type := Option Value ⊕ String
abbrev mb_F (s0 : State) : Nat → Prop := fun q => s0.heap.size ≤ q
def mb_Q (s0 : State) (D : va_G) (K : mb_O → va_W → Prop) : Array Value → State → Outcome → State → Prop := fun _ st oc t =>
  ∃ (v : Option Value) (ws : va_W), oc = .returned v ∧ K (.inl v) ws ∧ va_P D vwCl ws t.heap ∧ va_D (mb_F s0) ws ∧ va_F (mb_F s0) st t
def mb_X (s0 : State) (D : va_G) (K : mb_O → va_W → Prop) : String → State → State → Prop := fun E st t =>
  ∃ ws : va_W, K (.inr E) ws ∧ va_P D vwCl ws t.heap ∧ va_D (mb_F s0) ws ∧ va_F (mb_F s0) st t
def mb_B (s0 : State) (D : va_G) (ws : va_W) : State → Prop := fun U =>
  s0.WarmedH U.vm ∧ s0.heap.size ≤ U.heap.size ∧ (∀ q : Nat, q < s0.heap.size → U.heap[q]? = s0.heap[q]?) ∧ va_P D vwCl ws U.heap ∧ va_D (mb_F s0) ws
/-- the method y, called with vals in the world ws, ends in one of the ways K -/
def MB (l : Launch) (s0 : State) (D : va_G) (y : MethodName) (wd : Cond) (rm : Room) (vals : List Value) (ws : va_W) (K : mb_O → va_W → Prop) : Prop :=
  vx_Met l y [wd] rm (va_Pc vals (mb_B s0 D ws)) (mb_Q s0 D K) (mb_X s0 D K) rm.cells rm.slots (mb_F s0)
theorem mb_blind {s0 : State} {D : va_G} {ws : va_W} {vals : List Value} : FrameBlind (va_Pc vals (mb_B s0 D ws)) := fun _ _ _ _ q => q
/-- thrown over the frame: an exception of class E -/
def WX (k : kx_T) (pc : Nat) (lv : List (Nat × Value)) (st : List Value) (ws : va_W) (E : String) (ce sl : Nat) : Prop :=
  ∀ (H : Heap) (locs : List Loc) (ls : Array Slot) (q : Addr) (cell : Cell), va_P (kD k) vwCl ws H → va_D (kF k) ws → va_S (kF k) (kS k).heap H locs → lv_has ls (kN k) lv → H[q]? = some cell → cell.vm = .none → (kS k).vm.findClass E = some cell.cls →
    vx_W (kP k) (kL k) (kE k) (kR k) (kS k) (kM k) (kA k) (kB k) (kMe k) (kC k) H locs ce sl (kQ k) (F0 (kM k) pc ls st) q
section L3
variable {k : kx_T} {pc : Nat} {lv : List (Nat × Value)} {st : List Value} {ws : va_W} {ce sl : Nat} {K : mb_O → va_W → Prop} {y : MethodName} {rm : Room} {bytes : ByteArray} {maxL : Nat} {ret : Option FieldType}
/-- behind a call, whatever it brought -/
theorem w_run {H : Heap} {locs : List Loc} {ls : Array Slot} {st0 rest : List Value} {mc ms : Nat} {a : Array Value} (hl : lv_has ls (kN k) lv) (hS : va_S (kF k) (kS k).heap H locs)
    (hr : vx_Run (kP k) (kL k) (kE k) (kR k) (kS k) (kM k) (kA k) (kB k) (kMe k) (kC k) H locs ce sl mc ms (F0 (kM k) pc ls st0) rest (mb_Q (kS0 k) (kD k) K a) (mb_X (kS0 k) (kD k) K) (mb_F (kS0 k)))
    (h1 : ∀ v ws', K (.inl v) ws' → WS k (pc + 3) lv (v.toList ++ rest) ws' (ce + mc) (sl + ms)) (h2 : ∀ E ws', K (.inr E) ws' → WX k pc lv rest ws' E (ce + mc) (sl + ms)) :
    kx_W k H locs ce sl (F0 (kM k) pc ls st0) := by
  intro T hT X
  rcases hr T hT X with ⟨v, st₀, t, T', L, h0, X', hL, e1, e2, ⟨v', ws', hv, hK, hP', hD', hF⟩, stp⟩ | ⟨q, st₀, t, T', L, E, cx, h0, X', hL, e1, e2, ⟨ws', hK, hP', hD', hF⟩, hce, hcv, hcl, stp⟩
  · cases hv
    obtain ⟨-, -, k3⟩ := vx_keep (A0 := kF k) (A1 := kF k) h0 e1 hS (fun _ _ q => q) (fun _ q => q) hL hF
    obtain ⟨t2, a1, b1⟩ := h1 v ws' hK T'.heap (locs ++ L) ls (by rw [e1]; exact hP') hD' k3 hl T' rfl X'
    exact ⟨t2, stp t2 a1, b1⟩
  · obtain ⟨-, -, k3⟩ := vx_keep (A0 := kF k) (A1 := kF k) h0 e1 hS (fun _ _ q => q) (fun _ q => q) hL hF
    obtain ⟨t2, a1, b1⟩ := h2 E ws' hK T'.heap (locs ++ L) ls q cx (by rw [e1]; exact hP') hD' k3 hl (by rw [e1]; exact hce) hcv hcl T' rfl X'
    exact ⟨t2, stp.trans a1, b1⟩
theorem kx_B (C : kx_ok k) {H : Heap} {locs : List Loc} (hP : va_P (kD k) vwCl ws H) (hD : va_D (kF k) ws) (hS : va_S (kF k) (kS k).heap H locs) : ∀ U : State, U.heap = H → (kS k).WarmedH U.vm → mb_B (kS0 k) (kD k) ws U := by
  intro U hU hW
  have h7 := C.2.2.2.2.2.2.1
  refine ⟨State.WarmedH.trans C.2.2.2.2.1 hW, by rw [hU]; exact Nat.le_trans h7 hS.1, fun q hq => ?_, by rw [hU]; exact hP, hD⟩
  rw [hU, hS.2.1 q (Nat.lt_of_lt_of_le hq h7) (Nat.not_le.mpr hq)]
  exact C.2.2.2.2.2.2.2.1 q hq
/-- what a call of y wants of words and room -/
def cb_ok (k : kx_T) (idx : Nat) (y : MethodName) (bytes : ByteArray) (maxL : Nat) (ret : Option FieldType) (rm : Room) (n : Nat) : Prop :=
  Cond.methodLink (kOwn k) idx y ∈ gT ∧ Cond.code y bytes maxL ret ∈ gT ∧ Cond.initialized y.cls ∈ gT ∧ (y.cls ≠ "java/lang/invoke/MethodHandle" ∧ y.cls ≠ "java/lang/invoke/VarHandle" ∧ (parseMethodDescriptor y.desc).map (fun d => d.parameters.length) = some n) ∧
  rm.frames + 1 ≤ (kR k).frames ∧ 8 + (maxL + 11) + rm.locals ≤ (kR k).locals
theorem cb_B (C : kx_ok k) {idx n : Nat} (h : cb_ok k idx y bytes maxL ret rm n) : CallB (kR k) (kS k) (kA k) (kOwn k) idx y bytes maxL ret [Cond.code y bytes maxL ret] rm rm.cells rm.slots n := by
  obtain ⟨h1, h2, h3, h4, h5, h6⟩ := h
  exact callB_of n (kx_wd C) (fun w hw => by
    rw [List.mem_singleton.mp hw]
    exact ⟨h2, good_of_word (List.mem_filter.mp h2).2⟩) rfl rfl rfl (kx_wd C _ h3) (kx_wd C _ h1) h4 ⟨h5, h6⟩
theorem w_callV (C : kx_ok k) {idx n q0 ci N b : Nat} {T : u_T} {fs As : List Value} (cb : cb_ok k idx y bytes maxL ret rm n) (hi : Cond.instanceMethod y ∈ gT) (hse : Cond.selects y.cls y y ∈ gT) (hM : MB (kL k) (kS0 k) (kD k) y (.code y bytes maxL ret) rm (.ref b :: As) ws K)
    (he : ws[q0]? = some (b, .inr (ci, fs))) (hc : vwCl[ci]? = some (y.cls, T, N)) (hn : As.length = n) (hw : (st.map fun v => v.category).sum ≤ 8) (hf : ce + rm.cells ≤ (kR k).cells ∧ sl + rm.slots ≤ (kR k).slots) (d : decode (kCc k) pc = .ok (.invokevirtual idx, 3))
    (h1 : ∀ v ws', K (.inl v) ws' → WS k (pc + 3) lv (v.toList ++ st) ws' (ce + rm.cells) (sl + rm.slots)) (h2 : ∀ E ws', K (.inr E) ws' → WX k pc lv st ws' E (ce + rm.cells) (sl + rm.slots)) : WS k pc lv (As.reverse ++ .ref b :: st) ws ce sl := by
  intro H locs ls hP hD hS hl
  refine w_run (K := K) hl hS (vx_runV (C := y.cls) (As := As) (rest := st) ⟨C.1, C.2.1, C.2.2.1, C.2.2.2.1, kx_wd C⟩ hM ⟨cb_B C cb, kx_wd C _ hi, kx_wd C _ hse⟩ ⟨mb_blind, va_recv (kx_K C) hP hc he, fun U hU hW => ⟨rfl, kx_B C hP hD hS U hU hW⟩⟩ rfl hn hl.1 rfl ?_ d hf) h1 h2
  simpa using hw
theorem w_callS (C : kx_ok k) {idx n : Nat} {As : List Value} (cb : cb_ok k idx y bytes maxL ret rm n) (hi : Cond.static y ∈ gT) (hM : MB (kL k) (kS0 k) (kD k) y (.code y bytes maxL ret) rm As ws K)
    (hn : As.length = n) (hw : (st.map fun v => v.category).sum ≤ 8) (hf : ce + rm.cells ≤ (kR k).cells ∧ sl + rm.slots ≤ (kR k).slots) (d : decode (kCc k) pc = .ok (.invokestatic idx, 3))
    (h1 : ∀ v ws', K (.inl v) ws' → WS k (pc + 3) lv (v.toList ++ st) ws' (ce + rm.cells) (sl + rm.slots)) (h2 : ∀ E ws', K (.inr E) ws' → WX k pc lv st ws' E (ce + rm.cells) (sl + rm.slots)) : WS k pc lv (As.reverse ++ st) ws ce sl := by
  intro H locs ls hP hD hS hl
  refine w_run (K := K) hl hS (vx_runS (As := As) (rest := st) ⟨C.1, C.2.1, C.2.2.1, C.2.2.2.1, kx_wd C⟩ hM ⟨cb_B C cb, kx_wd C _ hi⟩ ⟨mb_blind, fun U hU hW => ⟨rfl, kx_B C hP hD hS U hU hW⟩⟩ rfl hn hl.1 rfl ?_ d hf) h1 h2
  simpa using hw
/-- a method that never throws -/
theorem mb_noX {l : Launch} {s0 : State} {D : va_G} {wd : Cond} {vals : List Value} (h : MB l s0 D y wd rm vals ws K) (hx : ∀ E ws', ¬ K (.inr E) ws') : Met l y [wd] rm (va_Pc vals (mb_B s0 D ws)) (mb_Q s0 D K) rm.cells rm.slots (mb_F s0) := by
  intro p e h1 h2 h3 s m args below hf ha hP hK
  obtain ⟨n, o, a1, a2, a3, a4⟩ := h p e h1 h2 h3 s m args below hf ha hP hK
  refine ⟨n, o, a1, a2, a3, ?_⟩
  rcases a4 with a4 | ⟨q, -, E, ce, L, ⟨ws', hk, -⟩, -⟩
  · exact a4
  · exact absurd hk (hx E ws')
/-- a call by Met, run -/
theorem w_runM {H : Heap} {locs : List Loc} {ls : Array Slot} {st0 rest : List Value} {mc ms : Nat} {a : Array Value} (hl : lv_has ls (kN k) lv) (hS : va_S (kF k) (kS k).heap H locs)
    (hr : va_Run (kP k) (kL k) (kE k) (kR k) (kS k) (kM k) (kA k) (kB k) (kMe k) (kC k) H locs ce sl mc ms (F0 (kM k) pc ls st0) rest (mb_Q (kS0 k) (kD k) K a) (mb_F (kS0 k)))
    (h1 : ∀ v ws', K (.inl v) ws' → WS k (pc + 3) lv (v.toList ++ rest) ws' (ce + mc) (sl + ms)) :
    kx_W k H locs ce sl (F0 (kM k) pc ls st0) := by
  intro T hT X
  obtain ⟨v, st₀, t, T', L, h0, X', hL, e1, e2, ⟨v', ws', hv, hK, hP', hD', hF⟩, stp⟩ := hr T hT X
  cases hv
  obtain ⟨-, -, k3⟩ := vx_keep (A0 := kF k) (A1 := kF k) h0 e1 hS (fun _ _ q => q) (fun _ q => q) hL hF
  obtain ⟨t2, a1, b1⟩ := h1 v ws' hK T'.heap (locs ++ L) ls (by rw [e1]; exact hP') hD' k3 hl T' rfl X'
  exact ⟨t2, stp t2 a1, b1⟩
theorem w_callI (C : kx_ok k) {idx n b : Nat} {As : List Value} (cb : cb_ok k idx y bytes maxL none rm n) (hy : y.name = "<init>") (hi : Cond.instanceMethod y ∈ gT) (hM : MB (kL k) (kS0 k) (kD k) y (.code y bytes maxL none) rm (.ref b :: As) ws K) (hx : ∀ E ws', ¬ K (.inr E) ws')
    (hn : As.length = n) (hw : (st.map fun v => v.category).sum ≤ 8) (hf : ce + rm.cells ≤ (kR k).cells ∧ sl + rm.slots ≤ (kR k).slots) (d : decode (kCc k) pc = .ok (.invokespecial idx, 3))
    (h1 : ∀ v ws', K (.inl v) ws' → WS k (pc + 3) lv (v.toList ++ st) ws' (ce + rm.cells) (sl + rm.slots)) : WS k pc lv (As.reverse ++ .ref b :: st) ws ce sl := by
  intro H locs ls hP hD hS hl
  refine w_runM (K := K) hl hS (va_runI (As := As) (rest := st) ⟨C.1, C.2.1, C.2.2.1, C.2.2.2.1, kx_wd C⟩ (mb_noX hM hx) ⟨cb_B C cb, hy, kx_wd C _ hi⟩ ⟨mb_blind, fun U hU hW => ⟨rfl, kx_B C hP hD hS U hU hW⟩⟩ rfl hn hl.1 rfl ?_ d hf) h1
  simpa using hw
/-- how an activation is to end: the ways K, room mc ms -/
def kx_end (k : kx_T) (K : mb_O → va_W → Prop) (mc ms : Nat) : Prop := kQ k = vx_MQ (kB k) (mb_Q (kS0 k) (kD k) K) (mb_X (kS0 k) (kD k) K) (kA k) (kS k) mc ms (mb_F (kS0 k))
theorem w_vret (C : kx_ok k) {mc ms : Nat} (q : kx_end k K mc ms) (hr : (kMe k).sig.returnType = none) (d : decode (kCc k) pc = .ok (.return_, 1)) (h1 : ce ≤ mc) (h2 : sl ≤ ms) (h : K (.inl none) ws) : WS k pc lv [] ws ce sl := by
  intro H locs ls hP hD hS hl
  show W _ _ _ _ _ _ _ _ _ _ _ _ _ _ (kQ k) _
  rw [q]
  refine vx_ret (W.widen h1 h2 (W.vret C.1 C.2.1 hr (fun t ht hW => ?_) (fun z hz => hS.2.2 z hz) d C.2.2.2.2.2.2.2.2.1))
  exact ⟨none, ws, rfl, h, by rw [ht]; exact hP, hD, hS.F ht⟩
theorem w_iret (C : kx_ok k) {mc ms : Nat} {x : Int32} {ty : FieldType} (q : kx_end k K mc ms) (hr : (kMe k).sig.returnType = some ty) (hn : narrow ty (.int x) = .int x) (d : decode (kCc k) pc = .ok (.ireturn, 1)) (h1 : ce ≤ mc) (h2 : sl ≤ ms) (h : K (.inl (some (.int x))) ws) : WS k pc lv [.int x] ws ce sl := by
  intro H locs ls hP hD hS hl
  show W _ _ _ _ _ _ _ _ _ _ _ _ _ _ (kQ k) _
  rw [q]
  refine vx_ret (W.widen h1 h2 (W.zret C.1 C.2.1 hr hn (fun t ht hW => ?_) (fun z hz => hS.2.2 z hz) d C.2.2.2.2.2.2.2.2.1))
  exact ⟨some (.int x), ws, rfl, h, by rw [ht]; exact hP, hD, hS.F ht⟩
theorem w_lret (C : kx_ok k) {mc ms : Nat} {x : Int64} (q : kx_end k K mc ms) (hr : (kMe k).sig.returnType = some .long) (d : decode (kCc k) pc = .ok (.lreturn, 1)) (h1 : ce ≤ mc) (h2 : sl ≤ ms) (h : K (.inl (some (.long x))) ws) : WS k pc lv [.long x] ws ce sl := by
  intro H locs ls hP hD hS hl
  show W _ _ _ _ _ _ _ _ _ _ _ _ _ _ (kQ k) _
  rw [q]
  refine vx_ret (W.widen h1 h2 (W.lret C.1 C.2.1 hr (fun t ht hW => ?_) (fun z hz => hS.2.2 z hz) d C.2.2.2.2.2.2.2.2.1))
  exact ⟨some (.long x), ws, rfl, h, by rw [ht]; exact hP, hD, hS.F ht⟩
/-- an exception that no row of the table takes goes on to the caller -/
theorem x_out (C : kx_ok k) {mc ms : Nat} {E : String} (q : kx_end k K mc ms) (hout : ∀ x ∈ (kC k).exceptionTable.toList, covers x pc = false) (h1 : ce ≤ mc) (h2 : sl ≤ ms) (h : K (.inr E) ws) : WX k pc lv st ws E ce sl := by
  intro H locs ls a cell hP hD hS hl hc hv hcl
  show vx_W _ _ _ _ _ _ _ _ _ _ _ _ _ _ (kQ k) _ _
  rw [q]
  exact vx_out hout C.2.2.2.2.2.2.2.2.1 hc hv hcl (fun t ht _ => ⟨ws, h, by rw [ht]; exact hP, hD, hS.F ht⟩) (fun z hz => hS.2.2 z hz) h1 h2
end L3
