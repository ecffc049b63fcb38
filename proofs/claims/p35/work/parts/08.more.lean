/-! Layer 1: arraycopy, arrays of arrays, the law's own helpers -/
section L5
variable {k : kx_T} {pc : Nat} {lv : List (Nat × Value)} {st : List Value} {ws : va_W} {ce sl : Nat} {K : mb_O → va_W → Prop} {y : MethodName} {rm : Room} {bytes : ByteArray} {maxL : Nat} {ret : Option FieldType} {a0 : Array Value}
theorem w_copyi (C : kx_ok k) {idx q0 q1 t0 a b : Nat} {c0 : ClassId} {n0 n1 : Nat} {f g : Nat → Int32} {sp dp n : Int32} (hl : Cond.methodLink (kOwn k) idx arraycopyName ∈ gT) (hnat : Cond.native arraycopyName ∈ gT) (hst : Cond.static arraycopyName ∈ gT) (hini : Cond.initialized "java/lang/System" ∈ gT)
    (ha0 : ws[q0]? = some (a, .inl (c0, n0, .inl f))) (ha1 : ws[q1]? = some (b, .inl (c0, n1, .inl g))) (ht : (kTy k)[t0]? = some (c0, .int)) (h1 : ¬ sp < 0) (h2 : ¬ dp < 0) (h3 : ¬ n < 0) (h4 : sp.toNatClampNeg + n.toNatClampNeg ≤ n0) (h5 : dp.toNatClampNeg + n.toNatClampNeg ≤ n1)
    (hf : 1 ≤ (kR k).frames) (hlo : (st.map fun v => v.category).sum + (nativeFrameWords "java/lang/System" "arraycopy" 5 + 11) ≤ (kR k).locals) (d : decode (kCc k) pc = .ok (.invokestatic idx, 3))
    (h : WS k (pc + 3) lv st (ws.set q1 (b, .inl (c0, n1, .inl (va_cpy f g sp.toNatClampNeg dp.toNatClampNeg n.toNatClampNeg)))) ce sl) : WS k pc lv (.int n :: .int dp :: .ref b :: .int sp :: .ref a :: st) ws ce sl :=
  fun H locs ls hP hD hS hlv => va_copyi C.1 C.2.1 (C.2.2.1.trans hlv.1.symm) C.2.2.2.1 (kx_wd C _ hl) (kx_wd C _ hnat) (kx_wd C _ hst) (kx_wd C _ hini) (kx_K C) hP hD hS q0 q1 t0 t0 ha0 ha1 ht ht rfl h1 h2 h3 h4 h5 (fun _ _ => rfl) hf hlo d (fun H1 l1 p1 p2 p3 => h H1 l1 ls p1 p2 p3 hlv)
theorem vr_outer (c : ClassId) (N h0 : Nat) : ∀ i : Nat, Jvm.Free.Multi.outerC c N h0 i = arrV c N (fun j => va_rf (if j < i then some (h0 + 1 + j) else none))
  | 0 => by
    show ({ cls := c, slots := Array.replicate N .null, vm := .none } : Cell) = _
    rw [arrV_new]
    refine congrArg (arrV c N) (funext fun j => ?_)
    simp [va_rf]
  | i + 1 => by
    show (Jvm.Free.Multi.outerC c N h0 i).setSlot i (.ref (h0 + 1 + i)) = _
    rw [vr_outer c N h0 i, arrV_store]
    refine congrArg (arrV c N) (funext fun j => ?_)
    by_cases e : j = i
    · subst e
      simp [updV, va_rf]
    · by_cases h : j < i
      · simp [updV, e, h, Nat.lt_succ_of_lt h]
      · simp [updV, e, h, show ¬ j < i + 1 by omega]
/-- cells laid one behind another from q on -/
def vz_row (q : Nat) (es : List va_E) : va_W := es.zipIdx.map (fun x => (q + x.2, x.1))
theorem vz_get {q j : Nat} {es : List va_E} {x : Nat × va_E} (h : (vz_row q es)[j]? = some x) : ∃ e, es[j]? = some e ∧ x = (q + j, e) := by
  unfold vz_row at h
  rw [List.getElem?_map, List.getElem?_zipIdx] at h
  cases he : es[j]? with
  | none => rw [he] at h; cases h
  | some e => rw [he] at h; cases h; exact ⟨e, rfl, by simp⟩
/-- new cells behind the heap: the world grows by them -/
theorem vz_grow {D : va_G} {A : Nat → Prop} {es : List va_E} {H H1 : Heap} (hP : va_P D vwCl ws H) (hD : va_D A ws) (hA : ∀ q, H.size ≤ q → A q) (hold : ∀ q : Nat, q < H.size → H1[q]? = H[q]?) (hnew : ∀ (j : Nat) (e : va_E), es[j]? = some e → va_at D vwCl (H.size + j, e) H1) :
    va_P D vwCl (ws ++ vz_row H.size es) H1 ∧ va_D A (ws ++ vz_row H.size es) := by
  refine ⟨va_P.app (hP.kept (fun j x hx => hold x.1 ((hP j x hx).lt))) (fun j x hx => ?_), va_D.app hD ⟨fun i j x z hx hz e => ?_, fun j x hx => ?_⟩ (fun i j x z hx hz e => ?_)⟩
  · obtain ⟨e, he, rfl⟩ := vz_get hx
    exact hnew j e he
  · obtain ⟨e1, -, rfl⟩ := vz_get hx
    obtain ⟨e2, -, rfl⟩ := vz_get hz
    simpa using e
  · obtain ⟨e1, -, rfl⟩ := vz_get hx
    exact hA _ (Nat.le_add_right _ _)
  · obtain ⟨e2, -, rfl⟩ := vz_get hz
    have := (hP i x hx).lt
    simp only at e
    omega
/-- new int[N][M]: the outer array, then its rows -/
theorem w_mna2 (C : kx_ok k) {idx t0 t1 N M : Nat} {cA cy : ClassId} {n m : Int32} (hcl : Cond.classLink (kOwn k) idx "[[I" ∈ gT) (hov : (Cond.arrayOver (.array .int)).before (kA k) (kS k) = true) (harr : Cond.arrayClass .int ∈ gT) (ht0 : (kTy k)[t0]? = some (cy, .int)) (ht1 : (kTy k)[t1]? = some (cA, .array .int))
    (hn : ¬ n < 0) (hm : ¬ m < 0) (hN : n.toNatClampNeg = N) (hM : m.toNatClampNeg = M) (hb1 : N * 4 ≤ 536870912) (hb2 : M * 4 ≤ 536870912) (h1 : ce + (1 + N) ≤ (kR k).cells) (h2 : sl + (N + N * M) ≤ (kR k).slots) (d : decode (kCc k) pc = .ok (.multianewarray idx 2, 4))
    (h : ∀ q : Nat, WS k (pc + 4) lv (.ref q :: st) (ws ++ vz_row q (.inl (cA, N, .inr (.inr (.inr (.inr (fun i => if i < N then some (q + 1 + i) else none))))) :: List.replicate N (.inl (cy, M, .inl (fun _ => 0))))) (ce + 1 + N) (sl + N + N * M)) : WS k pc lv (.int m :: .int n :: st) ws ce sl := by
  intro H locs ls hP hD hS hl
  subst hN
  subst hM
  intro T hT X
  obtain ⟨vm₁, cB, comp, -, fA, fC, -, -, X', step⟩ := X.multianewarray2F C.1 C.2.2.2.1 (kx_wd C _ hcl) hov (kx_wd C _ harr) (g := F0 (kM k) pc ls (.int m :: .int n :: st)) rfl (by rw [C.2.1]; exact d) rfl hn hm hb1 hb2 (by omega) rfl rfl h1 h2
  have e1 : cB = cA := kx_ty C (fun _ h => by cases h) ht1 fA
  have e2 : comp = cy := kx_ty C (fun _ h => by cases h) ht0 fC
  subst e1
  subst e2
  generalize hF : Jvm.Free.Multi.fill (T.setVm vm₁) cB comp n.toNatClampNeg m.toNatClampNeg (defaultValue .int) n.toNatClampNeg = F at X' step
  have hTh : (T.setVm vm₁).heap = H := hT
  obtain ⟨f1, f2, -, -⟩ := Jvm.Free.Multi.fill_facts (T.setVm vm₁) cB comp n.toNatClampNeg m.toNatClampNeg (defaultValue .int) n.toNatClampNeg
  rw [hF, hTh] at f1 f2
  have hold : ∀ x : Nat, x < H.size → F.heap[x]? = H[x]? := fun x hx => by
    have := Jvm.Free.Multi.fill_old (T.setVm vm₁) cB comp n.toNatClampNeg m.toNatClampNeg (defaultValue .int) (a := x) (by rw [hTh]; exact hx) n.toNatClampNeg
    rw [hF, hTh] at this
    exact this
  have hrow : ∀ j : Nat, j < n.toNatClampNeg → F.heap[H.size + 1 + j]? = some (arrV comp m.toNatClampNeg (fun _ => .int 0)) := fun j hj => by
    have := Jvm.Free.Multi.fill_inner (T.setVm vm₁) cB comp n.toNatClampNeg m.toNatClampNeg (defaultValue .int) n.toNatClampNeg j hj
    rw [hF, hTh] at this
    rw [this]
    show some ({ cls := comp, slots := Array.replicate m.toNatClampNeg (.int 0), vm := .none } : Cell) = _
    rw [arrV_new]
  have hg := vz_grow (es := .inl (cB, n.toNatClampNeg, .inr (.inr (.inr (.inr (fun i => if i < n.toNatClampNeg then some (H.size + 1 + i) else none))))) :: List.replicate n.toNatClampNeg (.inl (comp, m.toNatClampNeg, .inl (fun _ => 0)))) hP hD (fun q hq => kx_new C q (Nat.le_trans hS.1 hq)) hold (fun j e he => by
    cases j with
    | zero =>
      cases he
      show F.heap[H.size + 0]? = some (vp_cell _ _)
      rw [vp_cell_q, Nat.add_zero, f2, vr_outer]
    | succ j =>
      rw [List.getElem?_cons_succ, List.getElem?_replicate] at he
      split at he
      · cases he
        show F.heap[H.size + (j + 1)]? = some (vp_cell _ _)
        rw [vp_cell_i, ← hrow j (by assumption)]
        congr 1
        omega
      · cases he)
  obtain ⟨t, a1, b1⟩ := h H.size F.heap locs ls hg.1 hg.2 ⟨by rw [f1]; have := hS.1; omega, fun x h3 h4 => (hold x (Nat.lt_of_lt_of_le h3 hS.1)).trans (hS.2.1 x h3 h4), hS.2.2⟩ hl F rfl X'
  refine ⟨t, step t ?_, b1⟩
  have e : T.heap.size = H.size := by rw [hT]
  rw [e]
  exact a1
end L5
