/-! Layer 1: fields, arrays, new things -/
/-- what is known of class ci: its name, fields, their types -/
def cl_ok (ci : Nat) (N : Nat) (C : String) (T : u_T) (ty : Nat → FieldType) : Prop :=
  vwCl[ci]? = some (C, T, N) ∧ (∀ w ∈ u_ws C T N, w ∈ gT) ∧ (∀ j, j < N → parseFieldDescriptor (T j).2.2.1 = some (ty j)) ∧ (∀ a, a < N → ∀ b, b < N → a ≠ b → (T a).2.1 ≠ (T b).2.1)
section L2
variable {k : kx_T} {pc : Nat} {lv : List (Nat × Value)} {st : List Value} {ws : va_W} {ce sl : Nat}
theorem w_get (C : kx_ok k) {idx ci f N a : Nat} {Cn : String} {T : u_T} {ty : Nat → FieldType} {fs : List Value} {v : Value} (q0 : Nat) (hc : cl_ok ci N Cn T ty) (he : ws[q0]? = some (a, .inr (ci, fs))) (hf : f < N) (hl : Cond.fieldLink (kOwn k) idx (T f).1 (T f).2.1 (T f).2.2.1 ∈ gT) (hv : fs[f]? = some v)
    (d : decode (kCc k) pc = .ok (.getfield idx, 3)) (h : WS k (pc + 3) lv (v :: st) ws ce sl) : WS k pc lv (.ref a :: st) ws ce sl :=
  fun H locs ls hP hD hS hlv => va_get C.1 C.2.1 (kx_wd C) hc.2.1 C.2.2.2.1 (kx_K C) hP q0 he hc.1 f hf (kx_wd C _ hl) (fun _ q => q) hv d (h H locs ls hP hD hS hlv)
theorem w_put (C : kx_ok k) {idx ci f N a : Nat} {Cn : String} {T : u_T} {ty : Nat → FieldType} {fs : List Value} {v : Value} (q0 : Nat) (hc : cl_ok ci N Cn T ty) (he : ws[q0]? = some (a, .inr (ci, fs))) (hf : f < N) (hl : Cond.fieldLink (kOwn k) idx (T f).1 (T f).2.1 (T f).2.2.1 ∈ gT) (hn : narrow (ty f) v = v) (hfit : fits (ty f) v = true) (hfs : f < fs.length)
    (hfin : (T f).2.2.2 = false ∨ ((T f).2.2.2 = true ∧ (kMe k).name = "<init>" ∧ (T f).1 = kOwn k))
    (d : decode (kCc k) pc = .ok (.putfield idx, 3)) (h : WS k (pc + 3) lv st (ws.set q0 (a, .inr (ci, fs.set f v))) ce sl) : WS k pc lv (v :: .ref a :: st) ws ce sl := by
  intro H locs ls hP hD hS hlv
  rcases hfin with h1 | ⟨h1, h2, h3⟩
  · exact va_put C.1 C.2.1 (kx_wd C) hc.2.1 ty hc.2.2.1 hc.2.2.2 C.2.2.2.1 (kx_K C) hP hD hS q0 he hc.1 f hf (kx_wd C _ hl) (fun _ q => q) h1 (hc.2.2.1 f hf) hn hfit hfs d (fun H1 l1 p1 p2 p3 => h H1 l1 ls p1 p2 p3 hlv)
  · exact va_putF C.1 C.2.1 (kx_wd C) hc.2.1 ty hc.2.2.1 hc.2.2.2 C.2.2.2.1 (kx_K C) hP hD hS q0 he hc.1 f hf (kx_wd C _ hl) (fun _ q => q) h1 h2 h3 (hc.2.2.1 f hf) hn hfit hfs d (fun H1 l1 p1 p2 p3 => h H1 l1 ls p1 p2 p3 hlv)
theorem w_iald (C : kx_ok k) {a n t0 : Nat} {cA : ClassId} {f : Nat → Int32} {i : Int32} (q0 : Nat) (he : ws[q0]? = some (a, .inl (cA, n, .inl f))) (ht : (kTy k)[t0]? = some (cA, .int)) (hi : vp_in i n) (d : decode (kCc k) pc = .ok (.iaload, 1)) (h : WS k (pc + 1) lv (.int (f i.toNatClampNeg) :: st) ws ce sl) : WS k pc lv (.int i :: .ref a :: st) ws ce sl :=
  fun H locs ls hP hD hS hlv => va_iald C.1 C.2.1 (kx_K C) hP q0 t0 he ht hi d (h H locs ls hP hD hS hlv)
theorem w_zald (C : kx_ok k) {a n t0 : Nat} {cA : ClassId} {f : Nat → Int32} {i : Int32} (q0 : Nat) (he : ws[q0]? = some (a, .inl (cA, n, .inl f))) (ht : (kTy k)[t0]? = some (cA, .boolean)) (hi : vp_in i n) (d : decode (kCc k) pc = .ok (.baload, 1)) (h : WS k (pc + 1) lv (.int (f i.toNatClampNeg) :: st) ws ce sl) : WS k pc lv (.int i :: .ref a :: st) ws ce sl :=
  fun H locs ls hP hD hS hlv => va_zald C.1 C.2.1 (kx_K C) hP q0 t0 he ht hi d (h H locs ls hP hD hS hlv)
theorem w_lald (C : kx_ok k) {a n t0 : Nat} {cA : ClassId} {f : Nat → Int64} {i : Int32} (q0 : Nat) (he : ws[q0]? = some (a, .inl (cA, n, .inr (.inl f)))) (ht : (kTy k)[t0]? = some (cA, .long)) (hi : vp_in i n) (d : decode (kCc k) pc = .ok (.laload, 1)) (h : WS k (pc + 1) lv (.long (f i.toNatClampNeg) :: st) ws ce sl) : WS k pc lv (.int i :: .ref a :: st) ws ce sl :=
  fun H locs ls hP hD hS hlv => va_lald C.1 C.2.1 (kx_K C) hP q0 t0 he ht hi d (h H locs ls hP hD hS hlv)
theorem w_aald (C : kx_ok k) {a n t0 : Nat} {cA : ClassId} {ty : FieldType} {f : Nat → Option Nat} {i : Int32} (q0 : Nat) (he : ws[q0]? = some (a, .inl (cA, n, .inr (.inr (.inr (.inr f)))))) (ht : (kTy k)[t0]? = some (cA, ty)) (hr : refKind ty = true) (hi : vp_in i n) (d : decode (kCc k) pc = .ok (.aaload, 1)) (h : WS k (pc + 1) lv (va_rf (f i.toNatClampNeg) :: st) ws ce sl) : WS k pc lv (.int i :: .ref a :: st) ws ce sl := by
  intro H locs ls hP hD hS hlv
  have hlt : i.toNatClampNeg < n := Nat.not_le.mp fun q => hi (Or.inr q)
  exact W.aald (v := va_rf (f i.toNatClampNeg)) (ty := ty) C.1 C.2.1 (hP q0 _ he) (((kx_K C).2 t0 _ ht).1 n (fun j => va_rf (f j))) hr (fun q => by cases q) (by show ¬ (i < 0 ∨ (arrV _ _ _).slots.size ≤ _); rw [arrV_size]; exact hi) (by show (arrV _ _ _).slots[_]? = _; rw [arrV_read _ _ hlt]) rfl rfl d (h H locs ls hP hD hS hlv)
theorem w_iast (C : kx_ok k) {a n t0 : Nat} {cA : ClassId} {f : Nat → Int32} {i x : Int32} (q0 : Nat) (he : ws[q0]? = some (a, .inl (cA, n, .inl f))) (ht : (kTy k)[t0]? = some (cA, .int)) (hi : vp_in i n) (d : decode (kCc k) pc = .ok (.iastore, 1)) (h : WS k (pc + 1) lv st (ws.set q0 (a, .inl (cA, n, .inl (upd f i.toNatClampNeg x)))) ce sl) : WS k pc lv (.int x :: .int i :: .ref a :: st) ws ce sl :=
  fun H locs ls hP hD hS hlv => va_iast C.1 C.2.1 (kx_K C) hP hD hS q0 t0 he ht hi d (fun H1 l1 p1 p2 p3 => h H1 l1 ls p1 p2 p3 hlv)
theorem w_zast (C : kx_ok k) {a n t0 : Nat} {cA : ClassId} {f : Nat → Int32} {i x : Int32} (q0 : Nat) (he : ws[q0]? = some (a, .inl (cA, n, .inl f))) (ht : (kTy k)[t0]? = some (cA, .boolean)) (hi : vp_in i n) (d : decode (kCc k) pc = .ok (.bastore, 1)) (h : WS k (pc + 1) lv st (ws.set q0 (a, .inl (cA, n, .inl (upd f i.toNatClampNeg (vp_nar .boolean x))))) ce sl) : WS k pc lv (.int x :: .int i :: .ref a :: st) ws ce sl :=
  fun H locs ls hP hD hS hlv => va_zast C.1 C.2.1 (kx_K C) hP hD hS q0 t0 he ht hi d (fun H1 l1 p1 p2 p3 => h H1 l1 ls p1 p2 p3 hlv)
theorem w_last (C : kx_ok k) {a n t0 : Nat} {cA : ClassId} {f : Nat → Int64} {i : Int32} {x : Int64} (q0 : Nat) (he : ws[q0]? = some (a, .inl (cA, n, .inr (.inl f)))) (ht : (kTy k)[t0]? = some (cA, .long)) (hi : vp_in i n) (d : decode (kCc k) pc = .ok (.lastore, 1)) (h : WS k (pc + 1) lv st (ws.set q0 (a, .inl (cA, n, .inr (.inl (vp_updL f i.toNatClampNeg x))))) ce sl) : WS k pc lv (.long x :: .int i :: .ref a :: st) ws ce sl :=
  fun H locs ls hP hD hS hlv => va_last C.1 C.2.1 (kx_K C) hP hD hS q0 t0 he ht hi d (fun H1 l1 p1 p2 p3 => h H1 l1 ls p1 p2 p3 hlv)
theorem w_aast (C : kx_ok k) {a n t0 ci v N : Nat} {cA : ClassId} {Cn : String} {T : u_T} {vs : List Value} {f : Nat → Option Nat} {i : Int32} (q0 qk : Nat) (he : ws[q0]? = some (a, .inl (cA, n, .inr (.inr (.inr (.inr f)))))) (ht : (kTy k)[t0]? = some (cA, .object Cn)) (hv : ws[qk]? = some (v, .inr (ci, vs))) (hc : vwCl[ci]? = some (Cn, T, N)) (hi : vp_in i n) (d : decode (kCc k) pc = .ok (.aastore, 1)) (h : WS k (pc + 1) lv st (ws.set q0 (a, .inl (cA, n, .inr (.inr (.inr (.inr (va_up f i.toNatClampNeg (some v)))))))) ce sl) : WS k pc lv (.ref v :: .int i :: .ref a :: st) ws ce sl :=
  fun H locs ls hP hD hS hlv => va_astq C.1 C.2.1 (kx_K C) hP hD hS q0 t0 qk ci he ht hv hc hi d (fun H1 l1 p1 p2 p3 => h H1 l1 ls p1 p2 p3 hlv)
theorem w_alen (C : kx_ok k) {a t0 : Nat} {cA : ClassId} {x : vp_A} {ty : FieldType} (q0 : Nat) (he : ws[q0]? = some (a, .inl (cA, x))) (ht : (kTy k)[t0]? = some (cA, ty)) (d : decode (kCc k) pc = .ok (.arraylength, 1)) (h : WS k (pc + 1) lv (.int (Int32.ofNat x.1) :: st) ws ce sl) : WS k pc lv (.ref a :: st) ws ce sl :=
  fun H locs ls hP hD hS hlv => va_alen C.1 C.2.1 (kx_K C) hP q0 t0 he ht rfl d (h H locs ls hP hD hS hlv)
theorem w_new (C : kx_ok k) {idx ci N : Nat} {Cn : String} {T : u_T} {ty : Nat → FieldType} {fs : List Value} (hc : cl_ok ci N Cn T ty) (hcl : Cond.classLink (kOwn k) idx Cn ∈ gT) (hins : Cond.instantiable Cn N ∈ gT) (hini : Cond.initialized Cn ∈ gT) (hfs : ∀ j, j < N → defaultValue (ty j) = vp_V fs j) (h1 : ce + 1 ≤ (kR k).cells) (h2 : sl + N ≤ (kR k).slots) (d : decode (kCc k) pc = .ok (.new idx, 3))
    (h : ∀ q : Nat, WS k (pc + 3) lv (.ref q :: st) (ws ++ [(q, .inr (ci, fs))]) (ce + 1) (sl + N)) : WS k pc lv st ws ce sl :=
  fun H locs ls hP hD hS hlv => va_new C.1 C.2.1 (kx_wd C) hc.2.1 ty hc.2.2.1 C.2.2.2.1 (kx_wd C _ hcl) (kx_wd C _ hins) (kx_wd C _ hini) (kx_K C) hP hD hS (kx_new C) hc.1 hfs h1 h2 d (fun q H1 p1 p2 p3 => h q H1 locs ls p1 p2 p3 hlv)
/-- the array's class of type t, as the tables have it -/
theorem kx_ty (C : kx_ok k) {t0 : Nat} {cA cB : ClassId} {ty : FieldType} (hno : ∀ n, ty ≠ .object n) (ht : (kTy k)[t0]? = some (cA, ty)) (h : va_RA (kS k) cB ty) : cB = cA := by
  have h1 := ((kx_K C).2 t0 _ ht).2
  cases ty with
  | object n => exact absurd rfl (hno n)
  | _ => exact Option.some.inj (Eq.trans (Eq.symm h) h1)
theorem kx_tyo (C : kx_ok k) {t0 : Nat} {cA cB : ClassId} {n : String} (ht : (kTy k)[t0]? = some (cA, .object n)) (h : va_RA (kS k) cB (.object n)) : cB = cA := by
  obtain ⟨_, _, -, -, -, h1⟩ := ((kx_K C).2 t0 _ ht).2
  obtain ⟨_, _, -, -, -, h2⟩ := h
  exact Option.some.inj (h2.symm.trans h1)
theorem w_newa (C : kx_ok k) {atype : ArrayType} {ty : FieldType} {n : Int32} {N t0 : Nat} {cA : ClassId} {a0 : vp_A} (harr : Cond.arrayClass ty ∈ gT) (hty : newarray.typeOf atype = ty) (hno : ∀ n, ty ≠ .object n) (ht : (kTy k)[t0]? = some (cA, ty)) (ha : vp_cell cA a0 = arrV cA N (fun _ => defaultValue ty)) (ha2 : ∀ c : ClassId, vp_cell c a0 = arrV c N (fun _ => defaultValue ty)) (hn : ¬ n < 0) (hN : n.toNatClampNeg = N) (hb : N * componentBytes ty ≤ 536870912) (h1 : ce + 1 ≤ (kR k).cells) (h2 : sl + N ≤ (kR k).slots) (d : decode (kCc k) pc = .ok (.newarray atype, 2))
    (h : ∀ q : Nat, WS k (pc + 2) lv (.ref q :: st) (ws ++ [(q, .inl (cA, a0))]) (ce + 1) (sl + N)) : WS k pc lv (.int n :: st) ws ce sl := by
  intro H locs ls hP hD hS hlv
  refine va_newa C.1 C.2.1 (by rw [hty]; exact kx_wd C _ harr) hty (kx_K C) hP hD hS (kx_new C) ha2 hn hN hb h1 h2 d (fun q cB H1 hK p1 p2 p3 => ?_)
  have e : cB = cA := kx_ty C hno ht (hK.2 (kTy k).length (cB, ty) (by simp)).2
  subst e
  exact h q H1 locs ls p1 p2 p3 hlv
theorem w_newq (C : kx_ok k) {idx t0 N : Nat} {Cn : String} {n : Int32} {cA : ClassId} (hcl : Cond.classLink (kOwn k) idx Cn ∈ gT) (hov : va_AO Cn (kS k)) (ht : (kTy k)[t0]? = some (cA, .object Cn)) (hn : ¬ n < 0) (hN : n.toNatClampNeg = N) (hb : N * 4 ≤ 536870912) (h1 : ce + 1 ≤ (kR k).cells) (h2 : sl + N ≤ (kR k).slots) (d : decode (kCc k) pc = .ok (.anewarray idx, 3))
    (h : ∀ q : Nat, WS k (pc + 3) lv (.ref q :: st) (ws ++ [(q, .inl (cA, N, .inr (.inr (.inr (.inr (fun _ => none))))))]) (ce + 1) (sl + N)) : WS k pc lv (.int n :: st) ws ce sl := by
  intro H locs ls hP hD hS hlv
  refine va_newq C.1 C.2.1 C.2.2.2.1 (kx_wd C _ hcl) hov (kx_K C) hP hD hS (kx_new C) hn hN hb h1 h2 d (fun q cB H1 hK p1 p2 p3 => ?_)
  have e : cB = cA := kx_tyo C ht (hK.2 (kTy k).length (cB, .object Cn) (by simp)).2
  subst e
  exact h q H1 locs ls p1 p2 p3 hlv
theorem w_objInit (C : kx_ok k) {idx a : Nat} (hl : Cond.methodLink (kOwn k) idx Lib.objectInit ∈ gT) (hi : Cond.instanceMethod Lib.objectInit ∈ gT) (hc : Cond.code Lib.objectInit ⟨#[0xb1]⟩ 1 none ∈ gT) (d : decode (kCc k) pc = .ok (.invokespecial idx, 3)) (h1 : 1 ≤ (kR k).frames) (h2 : (st.map fun v => v.category).sum + 12 ≤ (kR k).locals) (h : WS k (pc + 3) lv st ws ce sl) : WS k pc lv (.ref a :: st) ws ce sl :=
  fun H locs ls hP hD hS hlv => W.objInit C.1 C.2.1 C.2.2.2.1 (kx_wd C _ hl) (kx_wd C _ hi) (kx_wd C _ hc) rfl (hlv.1.trans C.2.2.1.symm) rfl d h1 (by simpa using h2) (h H locs ls hP hD hS hlv)
theorem w_widen {ce' sl' : Nat} (h1 : ce ≤ ce') (h2 : sl ≤ sl') (h : WS k pc lv st ws ce' sl') : WS k pc lv st ws ce sl :=
  fun H locs ls hP hD hS hlv => W.widen h1 h2 (h H locs ls hP hD hS hlv)
end L2
