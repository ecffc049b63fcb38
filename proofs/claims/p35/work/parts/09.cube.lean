/-! Layer 1: new int[N][M][L] -/
section CU
def f3_o (c : ClassId) (N h0 w : Nat) : Nat → Cell
  | 0 => { cls := c, slots := Array.replicate N .null, vm := .none }
  | i + 1 => (f3_o c N h0 w i).setSlot i (.ref (h0 + 1 + i * w))
def f3 (s : State) (c c2 c1 : ClassId) (N M L : Nat) (dv : Value) : Nat → State
  | 0 => s.pushCell (f3_o c N s.heap.size (1 + M) 0)
  | i + 1 => (Jvm.Free.Multi.fill (f3 s c c2 c1 N M L dv i) c2 c1 M L dv M).setCell s.heap.size (f3_o c N s.heap.size (1 + M) (i + 1))
theorem f3_o_facts (c : ClassId) (N h0 w : Nat) : ∀ i, (f3_o c N h0 w i).cls = c ∧ (f3_o c N h0 w i).vm = .none ∧ (f3_o c N h0 w i).slots.size = N
  | 0 => ⟨rfl, rfl, by simp [f3_o]⟩
  | i + 1 => by
    obtain ⟨a, b, d⟩ := f3_o_facts c N h0 w i
    exact ⟨by simp [f3_o, Cell.setSlot, a], by simp [f3_o, Cell.setSlot, b], by simp [f3_o, Cell.setSlot, d]⟩
theorem f3_arr (c : ClassId) (N h0 w : Nat) : ∀ i : Nat, f3_o c N h0 w i = arrV c N (fun j => va_rf (if j < i then some (h0 + 1 + j * w) else none))
  | 0 => by
    show ({ cls := c, slots := Array.replicate N .null, vm := .none } : Cell) = _
    rw [arrV_new]
    refine congrArg (arrV c N) (funext fun j => ?_)
    simp [va_rf]
  | i + 1 => by
    show (f3_o c N h0 w i).setSlot i (.ref (h0 + 1 + i * w)) = _
    rw [f3_arr c N h0 w i, arrV_store]
    refine congrArg (arrV c N) (funext fun j => ?_)
    by_cases e : j = i
    · subst e
      simp [updV, va_rf]
    · by_cases h : j < i
      · simp [updV, e, h, Nat.lt_succ_of_lt h]
      · simp [updV, e, h, show ¬ j < i + 1 by omega]
theorem f3_facts (s : State) (c c2 c1 : ClassId) (N M L : Nat) (dv : Value) : ∀ i, (f3 s c c2 c1 N M L dv i).heap.size = s.heap.size + 1 + i * (1 + M) ∧ (f3 s c c2 c1 N M L dv i).heap[s.heap.size]? = some (f3_o c N s.heap.size (1 + M) i) ∧
    (f3 s c c2 c1 N M L dv i).vm = s.vm ∧ (f3 s c c2 c1 N M L dv i).slotsUsed = s.slotsUsed + N + i * (M + M * L)
  | 0 => ⟨by simp [f3], by simp [f3], rfl, by simp [f3, f3_o]⟩
  | i + 1 => by
    obtain ⟨a, b, d, u⟩ := f3_facts s c c2 c1 N M L dv i
    obtain ⟨g1, -, g3, g4⟩ := Jvm.Free.Multi.fill_facts (f3 s c c2 c1 N M L dv i) c2 c1 M L dv M
    have hlt : s.heap.size < (f3 s c c2 c1 N M L dv i).heap.size := by rw [a]; omega
    have hb' : (Jvm.Free.Multi.fill (f3 s c c2 c1 N M L dv i) c2 c1 M L dv M).heap[s.heap.size]? = some (f3_o c N s.heap.size (1 + M) i) := by rw [Jvm.Free.Multi.fill_old (ha := hlt)]; exact b
    refine ⟨?_, State.heap_setCell_self hb', by simp [f3, g3, d], ?_⟩
    · simp only [f3, State.setCell, Array.size_setIfInBounds, g1, a, Nat.succ_mul]; omega
    · simp only [f3, State.slotsUsed_setCell, g4, u, Nat.succ_mul]; omega
theorem f3_setTop (s : State) (f : JFrame) (c c2 c1 : ClassId) (N M L : Nat) (dv : Value) : ∀ i, f3 (s.setTop f) c c2 c1 N M L dv i = (f3 s c c2 c1 N M L dv i).setTop f
  | 0 => rfl
  | i + 1 => by simp only [f3, f3_setTop s f c c2 c1 N M L dv i, State.heap_setTop, Jvm.Free.Multi.fill_setTop, State.setCell_setTop]
theorem f3_old (s : State) (c c2 c1 : ClassId) (N M L : Nat) (dv : Value) {a : Addr} (ha : a < s.heap.size) : ∀ i, (f3 s c c2 c1 N M L dv i).heap[a]? = s.heap[a]?
  | 0 => State.heap_pushCell_of_lt _ _ ha
  | i + 1 => by
    have f1 := (f3_facts s c c2 c1 N M L dv i).1
    have hlt : a < (f3 s c c2 c1 N M L dv i).heap.size := Nat.lt_of_lt_of_le ha (by rw [f1]; omega)
    show ((Jvm.Free.Multi.fill (f3 s c c2 c1 N M L dv i) c2 c1 M L dv M).setCell s.heap.size _).heap[a]? = _
    rw [State.heap_setCell_other (Nat.ne_of_gt ha), Jvm.Free.Multi.fill_old (ha := hlt)]
    exact f3_old s c c2 c1 N M L dv ha i
/-- the cell at h0 + 1 + j: the head of a plane, or a row -/
theorem f3_in (s : State) (c c2 c1 : ClassId) (N M L : Nat) (dv : Value) : ∀ i j, j < i * (1 + M) → (f3 s c c2 c1 N M L dv i).heap[s.heap.size + 1 + j]? = some (if j % (1 + M) = 0 then Jvm.Free.Multi.outerC c2 M (s.heap.size + 1 + j) M else Jvm.Free.Multi.innerC c1 L dv)
  | 0, j, h => by simp at h
  | i + 1, j, h => by
    have f1 := (f3_facts s c c2 c1 N M L dv i).1
    show ((Jvm.Free.Multi.fill (f3 s c c2 c1 N M L dv i) c2 c1 M L dv M).setCell s.heap.size _).heap[s.heap.size + 1 + j]? = _
    rw [State.heap_setCell_other (show s.heap.size ≠ s.heap.size + 1 + j by omega)]
    rcases Nat.lt_or_ge j (i * (1 + M)) with hj | hj
    · have hlt : s.heap.size + 1 + j < (f3 s c c2 c1 N M L dv i).heap.size := by rw [f1]; omega
      rw [Jvm.Free.Multi.fill_old (ha := hlt)]
      exact f3_in s c c2 c1 N M L dv i j hj
    · obtain ⟨g1, g2, -, -⟩ := Jvm.Free.Multi.fill_facts (f3 s c c2 c1 N M L dv i) c2 c1 M L dv M
      obtain ⟨r, rfl⟩ := Nat.exists_eq_add_of_le hj
      have hr : r < 1 + M := by rw [Nat.succ_mul] at h; omega
      have hmod : (i * (1 + M) + r) % (1 + M) = r := by rw [Nat.mul_add_mod_self_right, Nat.mod_eq_of_lt hr]
      rw [hmod]
      cases r with
      | zero =>
        rw [if_pos rfl, Nat.add_zero]
        rw [f1] at g2
        exact g2
      | succ r =>
        rw [if_neg (by omega)]
        have := Jvm.Free.Multi.fill_inner (f3 s c c2 c1 N M L dv i) c2 c1 M L dv M r (by omega)
        rw [f1] at this
        rw [← this, show s.heap.size + 1 + (i * (1 + M) + (r + 1)) = s.heap.size + 1 + i * (1 + M) + 1 + r by omega]
section
variable {E : CtlPost} {e : Env} {d : Bool} {acts : List Action} {s : State}
theorem wp_make3 {c c2 c1 cc : ClassId} {k k2 k1 : Class} {t0 t1 type : FieldType} {n m l : Int32} (hk : s.vm.classes[c]? = some k) (hkind : k.kind = .array c2 t0) (href : t0.isReference = true)
    (hk2 : s.vm.classes[c2]? = some k2) (hkind2 : k2.kind = .array c1 t1) (href2 : t1.isReference = true) (hk1 : s.vm.classes[c1]? = some k1) (hkind1 : k1.kind = .array cc type) (hn : ¬ n < 0) (hm : ¬ m < 0) (hl : ¬ l < 0)
    (hl1 : ¬ n.toNatClampNeg > e.platform.arrayLengthLimit) (hh1 : ¬ n.toNatClampNeg * componentBytes t0 > e.platform.maxHeapBytes)
    (hl2 : ¬ m.toNatClampNeg > e.platform.arrayLengthLimit) (hh2 : ¬ m.toNatClampNeg * componentBytes t1 > e.platform.maxHeapBytes)
    (hl3 : ¬ l.toNatClampNeg > e.platform.arrayLengthLimit) (hh3 : ¬ l.toNatClampNeg * componentBytes type > e.platform.maxHeapBytes)
    (hdf : fits type (defaultValue type) = true) (hdd : (defaultValue type).isDefault = true)
    (hc : s.heap.size + 1 + n.toNatClampNeg * (1 + m.toNatClampNeg) ≤ e.platform.maxCells) (hs : s.slotsUsed + n.toNatClampNeg + n.toNatClampNeg * (m.toNatClampNeg + m.toNatClampNeg * l.toNatClampNeg) ≤ e.platform.maxSlots)
    {Q : Addr → Pre} (hq : ∀ d' acts', Q s.heap.size d' acts' (f3 s c c2 c1 n.toNatClampNeg m.toNatClampNeg l.toNatClampNeg (defaultValue type) n.toNatClampNeg)) :
    wp (multianewarray.make c [n, m, l]) Q E e d acts s := by
  have hfind : ([m, l].find? (· < 0)) = none := by simp [hm, hl]
  rw [multianewarray.make]
  simp only [wp_bind', W.ite, hn, if_false, wp_pure', W.theClass, hk, hkind, Option.some.injEq, exists_eq_left']
  refine Jvm.Free.Multi.wp_newArray hk hkind hl1 hh1 (Jvm.Free.Multi.refFits href _ (Or.inl rfl)) rfl (by omega) (by omega) ?_
  simp only [hfind]
  rw [ite_self, wp_bind', Std.Legacy.Range.forIn_eq_forIn_range']
  have hsz : ([:n.toNatClampNeg] : Std.Legacy.Range).size = n.toNatClampNeg := by simp [Std.Legacy.Range.size]
  rw [hsz]
  show wp (forIn (List.range' 0 n.toNatClampNeg 1) PUnit.unit _) _ E e d acts _
  refine wp_forIn_inv (fun rest s' => ∃ i, i ≤ n.toNatClampNeg ∧ rest = List.range' i (n.toNatClampNeg - i) ∧ s' = f3 s c c2 c1 n.toNatClampNeg m.toNatClampNeg l.toNatClampNeg (defaultValue type) i) _ _ ⟨0, Nat.zero_le _, rfl, rfl⟩ ?_ ?_
  · rintro x rest s' d' acts' Q' ⟨i, hi, hl, rfl⟩ hnext
    have hlt : i < n.toNatClampNeg := by
      rcases Nat.lt_or_ge i n.toNatClampNeg with h | h
      · exact h
      · rw [show n.toNatClampNeg - i = 0 from by omega] at hl; simp at hl
    obtain ⟨rfl, hrest⟩ : x = i ∧ rest = List.range' (i + 1) (n.toNatClampNeg - (i + 1)) := by
      rw [show n.toNatClampNeg - i = (n.toNatClampNeg - (i + 1)) + 1 from by omega, List.range'_succ] at hl
      exact ⟨(List.cons.inj hl).1, (List.cons.inj hl).2⟩
    obtain ⟨f1, f2, f3', f4⟩ := f3_facts s c c2 c1 n.toNatClampNeg m.toNatClampNeg l.toNatClampNeg (defaultValue type) x
    obtain ⟨o1, o2, o3⟩ := f3_o_facts c n.toNatClampNeg s.heap.size (1 + m.toNatClampNeg) x
    have hmul : x * (1 + m.toNatClampNeg) + (1 + m.toNatClampNeg) ≤ n.toNatClampNeg * (1 + m.toNatClampNeg) := by
      have := Nat.mul_le_mul_right (1 + m.toNatClampNeg) (show x + 1 ≤ n.toNatClampNeg from hlt)
      rw [Nat.succ_mul] at this; exact this
    have hmul2 : x * (m.toNatClampNeg + m.toNatClampNeg * l.toNatClampNeg) + (m.toNatClampNeg + m.toNatClampNeg * l.toNatClampNeg) ≤ n.toNatClampNeg * (m.toNatClampNeg + m.toNatClampNeg * l.toNatClampNeg) := by
      have := Nat.mul_le_mul_right (m.toNatClampNeg + m.toNatClampNeg * l.toNatClampNeg) (show x + 1 ≤ n.toNatClampNeg from hlt)
      rw [Nat.succ_mul] at this; exact this
    simp only [wp_bind']
    refine Jvm.Free.Multi.wp_make2 (t0 := t1) (by rw [f3']; exact hk2) hkind2 href2 (by rw [f3']; exact hk1) hkind1 hm (by assumption) hl2 hh2 hl3 hh3 hdf hdd (by rw [f1]; omega) (by rw [f4]; omega) (fun d2 acts2 => ?_)
    obtain ⟨-, -, g3, -⟩ := Jvm.Free.Multi.fill_facts (f3 s c c2 c1 n.toNatClampNeg m.toNatClampNeg l.toNatClampNeg (defaultValue type) x) c2 c1 m.toNatClampNeg l.toNatClampNeg (defaultValue type) m.toNatClampNeg
    have hlt0 : s.heap.size < (f3 s c c2 c1 n.toNatClampNeg m.toNatClampNeg l.toNatClampNeg (defaultValue type) x).heap.size := by rw [f1]; omega
    simp only [wp_bind', W.writeLoc, wp_pure']
    refine ⟨f3_o c n.toNatClampNeg s.heap.size (1 + m.toNatClampNeg) x, by rw [Jvm.Free.Multi.fill_old (ha := hlt0)]; exact f2, by rw [o2]; simp, by rw [o3]; exact hlt, ?_, hnext _ _ _ ⟨x + 1, hlt, hrest, ?_⟩⟩
    · rw [o1, o2]
      simp [State.fitsSlot, State.slotType?, g3, f3', hk, hkind, Jvm.Free.Multi.refFits href _ (Or.inr ⟨_, rfl⟩)]
    · rw [f1]; rfl
  · rintro s' d' acts' ⟨i, hi, hl, rfl⟩
    have hiN : i = n.toNatClampNeg := by
      rcases Nat.lt_or_ge i n.toNatClampNeg with h | h
      · rw [show n.toNatClampNeg - i = (n.toNatClampNeg - (i + 1)) + 1 from by omega, List.range'_succ] at hl; cases hl
      · omega
    subst hiN
    simp only [wp_pure']
    exact hq _ _
end
section
variable {p : Program} {l : Launch} {e : Env} {R : Room} {s : State} {m : MethodId} {args : Array Value} {below : List Frame} {meth : Method} {c : Code} {T : State} {locs : List Loc} {cells slots : Nat}
theorem f3_stand (X : Stand p l e R s m args below meth c T locs cells slots) (cA c2 c1 : ClassId) (N M L : Nat) (dv : Value) (hz : s.heap.size ≤ T.heap.size) :
    ∀ i, Stand p l e R s m args below meth c (f3 T cA c2 c1 N M L dv i) locs (cells + 1 + i * (1 + M)) (slots + N + i * (M + M * L))
  | 0 => by
    have h := X.pushed (f3_o cA N T.heap.size (1 + M) 0)
    rw [(f3_o_facts cA N T.heap.size (1 + M) 0).2.2] at h
    simpa [f3] using h
  | i + 1 => by
    have Xi := f3_stand X cA c2 c1 N M L dv hz i
    obtain ⟨f1, f2, -, -⟩ := f3_facts T cA c2 c1 N M L dv i
    have hlt0 : T.heap.size < (f3 T cA c2 c1 N M L dv i).heap.size := by rw [f1]; omega
    have X2 := Xi.filled c2 c1 M L dv M
    have X3 := X2.forget (fun y hy => by
      obtain ⟨j, -, rfl⟩ := List.mem_map.mp hy
      show s.heap.size ≤ (f3 T cA c2 c1 N M L dv i).heap.size
      omega)
    have hcell : (Jvm.Free.Multi.fill (f3 T cA c2 c1 N M L dv i) c2 c1 M L dv M).heap[T.heap.size]? = some (f3_o cA N T.heap.size (1 + M) i) := by rw [Jvm.Free.Multi.fill_old (ha := hlt0)]; exact f2
    have X4 := (X3.stored hcell i (.ref (T.heap.size + 1 + i * (1 + M)))).forget (fun y hy => by
      rw [List.mem_singleton.mp hy]
      exact hz)
    have e1 : cells + 1 + (i + 1) * (1 + M) = cells + 1 + i * (1 + M) + 1 + M := by rw [Nat.succ_mul]; omega
    have e2 : slots + N + (i + 1) * (M + M * L) = slots + N + i * (M + M * L) + M + M * L := by rw [Nat.succ_mul]; omega
    rw [e1, e2]
    exact X4
theorem mna3 (X : Stand p l e R s m args below meth c T locs cells slots) (hexec : p.tables.exec = Jvm.exec) {own : String} {index : Nat} {ty : FieldType} (hz : s.heap.size ≤ T.heap.size)
    (hown : s.vm.findClass own = some m.cls) (hclink : (Cond.classLink own index ("[" ++ (FieldType.array (.array ty)).toString)).before args s = true)
    (hover : (Cond.arrayOver (.array (.array ty))).before args s = true) (hover2 : (Cond.arrayOver (.array ty)).before args s = true) (harr : (Cond.arrayClass ty).before args s = true)
    {g : JFrame} (hg : g.method = m) (hdg : decode c.code g.pc = .ok (.multianewarray index 3, 4)) {n k l3 : Int32} {rest : List Value} (hstack : g.stack = .int l3 :: .int k :: .int n :: rest)
    (hn : ¬ n < 0) (hk : ¬ k < 0) (hl : ¬ l3 < 0) (hb1 : n.toNatClampNeg * 4 ≤ 536870912) (hb2 : k.toNatClampNeg * 4 ≤ 536870912) (hb3 : l3.toNatClampNeg * componentBytes ty ≤ 536870912) (hb4 : l3.toNatClampNeg ≤ 536870912)
    (hdf : fits ty (defaultValue ty) = true) (hdd : (defaultValue ty).isDefault = true)
    (hcells : cells + (1 + n.toNatClampNeg * (1 + k.toNatClampNeg)) ≤ R.cells) (hslots : slots + (n.toNatClampNeg + n.toNatClampNeg * (k.toNatClampNeg + k.toNatClampNeg * l3.toNatClampNeg)) ≤ R.slots) :
    ∃ (vm₁ : Vm) (cA c2 c1 : ClassId), s.WarmedH vm₁ ∧ s.vm.findClass ("[" ++ (FieldType.array (.array ty)).toString) = some cA ∧ s.vm.findClass (FieldType.array (.array ty)).toString = some c2 ∧ s.vm.findClass (FieldType.array ty).toString = some c1 ∧
      Stand p l e R s m args below meth c (f3 (T.setVm vm₁) cA c2 c1 n.toNatClampNeg k.toNatClampNeg l3.toNatClampNeg (defaultValue ty) n.toNatClampNeg) locs (cells + 1 + n.toNatClampNeg * (1 + k.toNatClampNeg)) (slots + n.toNatClampNeg + n.toNatClampNeg * (k.toNatClampNeg + k.toNatClampNeg * l3.toNatClampNeg)) ∧
      ∀ target, Steps p.tables e below ((f3 (T.setVm vm₁) cA c2 c1 n.toNatClampNeg k.toNatClampNeg l3.toNatClampNeg (defaultValue ty) n.toNatClampNeg).setTop { g with pc := g.pc + 4, stack := .ref T.heap.size :: rest }) target →
        Steps p.tables e below (T.setTop g) target := by
  subst hg
  have hpl : e.platform.magicAccessors = ({} : Platform).magicAccessors := by rw [X.admits.platform]
  obtain ⟨comp, cA, kA, hcomp, hkA, hkindA, hnameA⟩ := Cond.arrayOver_specA hover
  obtain ⟨c1, c2, k2, hc1, hk2, hkind2, hname2⟩ := Cond.arrayOver_specA hover2
  obtain ⟨c1', k1, cc, hc1', hk1, hkind1⟩ := Cond.arrayClass_spec harr
  have ec2 : comp = c2 := Option.some.inj (hcomp.symm.trans hname2)
  subst ec2
  have ec1 : c1' = c1 := Option.some.inj (hc1'.symm.trans hc1)
  subst ec1
  obtain ⟨c0, hfc0, hcl⟩ := Cond.classLink_spec hown hclink e.platform hpl
  cases hnameA.symm.trans hfc0
  obtain ⟨hg₁, hwarm₁, hready₁⟩ := State.classEntry (e := e) X.warmed hcl
  generalize T.vm.noted g.method.cls index (.cls cA) = vm₁ at hg₁ hwarm₁ hready₁
  have hal : s.vm.Alike vm₁ := hwarm₁.alike
  obtain ⟨kA₁, hkA₁, heA⟩ := hal.2.2 _ _ hkA
  obtain ⟨k2₁, hk2₁, he2⟩ := hal.2.2 _ _ hk2
  obtain ⟨k1₁, hk1₁, he1⟩ := hal.2.2 _ _ hk1
  have hkindA₁ : kA₁.kind = .array comp (.array (.array ty)) := by rw [heA]; exact hkindA
  have hkind2₁ : k2₁.kind = .array c1' (.array ty) := by rw [he2]; exact hkind2
  have hkind1₁ : k1₁.kind = .array cc ty := by rw [he1]; exact hkind1
  have X₁ := X.noted hwarm₁
  obtain ⟨hr1, hr2⟩ := X.roomAbove hcells hslots
  refine ⟨vm₁, cA, comp, c1', hwarm₁, hnameA, hcomp, hc1, f3_stand X₁ cA comp c1' _ _ _ _ hz _, fun target hrest => ?_⟩
  have hl1 : ¬ n.toNatClampNeg > e.platform.arrayLengthLimit := by rw [Launch.admits_arrayLengthLimit X.admits]; omega
  have hh1 : ¬ n.toNatClampNeg * componentBytes (.array (.array ty)) > e.platform.maxHeapBytes := by
    rw [Launch.admits_maxHeapBytes X.admits]; show ¬ n.toNatClampNeg * 4 > 536870912; omega
  have hl2 : ¬ k.toNatClampNeg > e.platform.arrayLengthLimit := by rw [Launch.admits_arrayLengthLimit X.admits]; omega
  have hh2 : ¬ k.toNatClampNeg * componentBytes (.array ty) > e.platform.maxHeapBytes := by
    rw [Launch.admits_maxHeapBytes X.admits]; show ¬ k.toNatClampNeg * 4 > 536870912; omega
  have hl3 : ¬ l3.toNatClampNeg > e.platform.arrayLengthLimit := by rw [Launch.admits_arrayLengthLimit X.admits]; omega
  have hh3 : ¬ l3.toNatClampNeg * componentBytes ty > e.platform.maxHeapBytes := by rw [Launch.admits_maxHeapBytes X.admits]; omega
  jvm_step X.here [hexec, hdg]
  simp only [multianewarray.sem, wp_bind', W.resolveClassAt_links (State.method?_setTop g X.here.top) hg₁]
  rw [W.popN, if_neg (by decide)]
  refine ⟨g, State.topJava?_setTop' (s := T.setVm vm₁) g X.here.top, [.int n, .int k, .int l3], rest, rfl, hstack, ?_⟩
  simp only [List.mapM_cons, List.mapM_nil, wp_bind', wp_pure']
  refine wp_make3 (k := kA₁) (k2 := k2₁) (k1 := k1₁) (c2 := comp) (c1 := c1') (cc := cc) (t0 := .array (.array ty)) (t1 := .array ty) (type := ty) hkA₁ hkindA₁ rfl hk2₁ hkind2₁ rfl hk1₁ hkind1₁ hn hk hl hl1 hh1 hl2 hh2 hl3 hh3 hdf hdd (by show T.heap.size + 1 + _ ≤ _; omega) (by show T.slotsUsed + _ + _ ≤ _; omega) (fun d' acts' => ?_)
  have XF := f3_stand X₁ cA comp c1' n.toNatClampNeg k.toNatClampNeg l3.toNatClampNeg (defaultValue ty) hz n.toNatClampNeg
  have eS : ((T.setTop g).setVm vm₁).setTop { g with stack := rest } = (T.setVm vm₁).setTop { g with stack := rest } := by
    show ((T.setVm vm₁).setTop g).setTop _ = _
    rw [State.setTop_setTop]
  rw [eS, f3_setTop]
  simp only [wp_bind', W.mark, W.pushRef, State.topJava?_setTop' _ XF.here.top, Option.some.injEq, exists_eq_left', State.setTop_setTop, State.heap_setTop]
  intro acts
  simp [jvm, XF.here.top]
  exact hrest
end
section
variable {k : kx_T} {pc : Nat} {lv : List (Nat × Value)} {st : List Value} {ws : va_W} {ce sl : Nat}
/-- the cells of new int[N][M][L], as they lie from q on -/
def f3_es (cA c2 c1 : ClassId) (N M L q : Nat) : List va_E :=
  .inl (cA, N, .inr (.inr (.inr (.inr (fun i => if i < N then some (q + 1 + i * (1 + M)) else none))))) ::
  (List.range (N * (1 + M))).map (fun j => if j % (1 + M) = 0 then .inl (c2, M, .inr (.inr (.inr (.inr (fun i => if i < M then some (q + 1 + j + 1 + i) else none))))) else .inl (c1, L, .inl (fun _ => 0)))
theorem w_mna3 (C : kx_ok k) {idx t0 t1 t2 N M L : Nat} {cA c2 c1 : ClassId} {n m l3 : Int32} (hcl : Cond.classLink (kOwn k) idx "[[[I" ∈ gT) (hov : (Cond.arrayOver (.array (.array .int))).before (kA k) (kS k) = true) (hov2 : (Cond.arrayOver (.array .int)).before (kA k) (kS k) = true) (harr : Cond.arrayClass .int ∈ gT)
    (ht0 : (kTy k)[t0]? = some (c1, .int)) (ht1 : (kTy k)[t1]? = some (c2, .array .int)) (ht2 : (kTy k)[t2]? = some (cA, .array (.array .int)))
    (hn : ¬ n < 0) (hm : ¬ m < 0) (hl3 : ¬ l3 < 0) (hN : n.toNatClampNeg = N) (hM : m.toNatClampNeg = M) (hL : l3.toNatClampNeg = L) (hb1 : N * 4 ≤ 536870912) (hb2 : M * 4 ≤ 536870912) (hb3 : L * 4 ≤ 536870912) (h1 : ce + (1 + N * (1 + M)) ≤ (kR k).cells) (h2 : sl + (N + N * (M + M * L)) ≤ (kR k).slots) (d : decode (kCc k) pc = .ok (.multianewarray idx 3, 4))
    (h : ∀ q : Nat, WS k (pc + 4) lv (.ref q :: st) (ws ++ vz_row q (f3_es cA c2 c1 N M L q)) (ce + 1 + N * (1 + M)) (sl + N + N * (M + M * L))) : WS k pc lv (.int l3 :: .int m :: .int n :: st) ws ce sl := by
  intro H locs ls hP hD hS hl
  subst hN
  subst hM
  subst hL
  intro T hT X
  obtain ⟨vm₁, cB, d2, d1, -, fA, fC, fE, X', step⟩ := mna3 X C.1 (by rw [hT]; exact hS.1) C.2.2.2.1 (kx_wd C _ hcl) hov hov2 (kx_wd C _ harr) (g := F0 (kM k) pc ls (.int l3 :: .int m :: .int n :: st)) rfl (by rw [C.2.1]; exact d) rfl hn hm hl3 hb1 hb2 hb3 (by omega) rfl rfl h1 h2
  have e1 : cB = cA := kx_ty C (fun _ h => by cases h) ht2 fA
  have e2 : d2 = c2 := kx_ty C (fun _ h => by cases h) ht1 fC
  have e3 : d1 = c1 := kx_ty C (fun _ h => by cases h) ht0 fE
  subst e1
  subst e2
  subst e3
  generalize hF : f3 (T.setVm vm₁) cB d2 d1 n.toNatClampNeg m.toNatClampNeg l3.toNatClampNeg (defaultValue .int) n.toNatClampNeg = F at X' step
  have hTh : (T.setVm vm₁).heap = H := hT
  obtain ⟨f1, f2, -, -⟩ := f3_facts (T.setVm vm₁) cB d2 d1 n.toNatClampNeg m.toNatClampNeg l3.toNatClampNeg (defaultValue .int) n.toNatClampNeg
  rw [hF, hTh] at f1 f2
  have hold : ∀ x : Nat, x < H.size → F.heap[x]? = H[x]? := fun x hx => by
    have := f3_old (T.setVm vm₁) cB d2 d1 n.toNatClampNeg m.toNatClampNeg l3.toNatClampNeg (defaultValue .int) (a := x) (by rw [hTh]; exact hx) n.toNatClampNeg
    rw [hF, hTh] at this
    exact this
  have hin : ∀ j : Nat, j < n.toNatClampNeg * (1 + m.toNatClampNeg) → F.heap[H.size + 1 + j]? = some (if j % (1 + m.toNatClampNeg) = 0 then Jvm.Free.Multi.outerC d2 m.toNatClampNeg (H.size + 1 + j) m.toNatClampNeg else Jvm.Free.Multi.innerC d1 l3.toNatClampNeg (defaultValue .int)) := fun j hj => by
    have := f3_in (T.setVm vm₁) cB d2 d1 n.toNatClampNeg m.toNatClampNeg l3.toNatClampNeg (defaultValue .int) n.toNatClampNeg j hj
    rw [hF, hTh] at this
    exact this
  have hg := vz_grow (es := f3_es cB d2 d1 n.toNatClampNeg m.toNatClampNeg l3.toNatClampNeg H.size) hP hD (fun q hq => kx_new C q (Nat.le_trans hS.1 hq)) hold (fun j e he => by
    cases j with
    | zero =>
      cases he
      show F.heap[H.size + 0]? = some (vp_cell _ _)
      rw [vp_cell_q, Nat.add_zero, f2, f3_arr]
    | succ j =>
      unfold f3_es at he
      rw [List.getElem?_cons_succ, List.getElem?_map] at he
      by_cases hj : j < n.toNatClampNeg * (1 + m.toNatClampNeg)
      · rw [List.getElem?_range hj] at he
        have hi := hin j hj
        rw [show H.size + 1 + j = H.size + (j + 1) by omega] at hi
        cases he
        show va_at _ _ (H.size + (j + 1), if _ then _ else _) F.heap
        by_cases h0 : j % (1 + m.toNatClampNeg) = 0
        · rw [if_pos h0] at hi ⊢
          show F.heap[H.size + (j + 1)]? = some (vp_cell _ _)
          rw [vp_cell_q, hi, vr_outer]
          congr 2
          funext i
          rw [show H.size + (j + 1) + 1 + i = H.size + 1 + j + 1 + i by omega]
        · rw [if_neg h0] at hi ⊢
          show F.heap[H.size + (j + 1)]? = some (vp_cell _ _)
          rw [vp_cell_i, hi]
          show some ({ cls := d1, slots := Array.replicate l3.toNatClampNeg (.int 0), vm := .none } : Cell) = _
          rw [arrV_new]
      · have hn0 : (List.range (n.toNatClampNeg * (1 + m.toNatClampNeg)))[j]? = none := List.getElem?_eq_none (by rw [List.length_range]; omega)
        rw [hn0] at he
        cases he)
  obtain ⟨t, a1, b1⟩ := h H.size F.heap locs ls hg.1 hg.2 ⟨by rw [f1]; have := hS.1; omega, fun x h3 h4 => (hold x (Nat.lt_of_lt_of_le h3 hS.1)).trans (hS.2.1 x h3 h4), hS.2.2⟩ hl F rfl X'
  refine ⟨t, step t ?_, b1⟩
  have e : T.heap.size = H.size := by rw [hT]
  rw [e]
  exact a1
end
end CU
