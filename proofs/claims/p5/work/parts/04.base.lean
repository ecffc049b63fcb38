section
/-! Layer 1: the kit's rows over one world (a list of cells by number), all that is fixed in an activation held in one thing k. -/
abbrev kx_T : Type := (Program × Launch × Env × Room × State × MethodId × Array Value × List Frame × Method × Code × (State → Prop)) × (State × va_G × List (ClassId × FieldType) × String × ByteArray × Nat)
abbrev kP (k : kx_T) : Program := k.1.1
abbrev kL (k : kx_T) : Launch := k.1.2.1
abbrev kE (k : kx_T) : Env := k.1.2.2.1
abbrev kR (k : kx_T) : Room := k.1.2.2.2.1
abbrev kS (k : kx_T) : State := k.1.2.2.2.2.1
abbrev kM (k : kx_T) : MethodId := k.1.2.2.2.2.2.1
abbrev kA (k : kx_T) : Array Value := k.1.2.2.2.2.2.2.1
abbrev kB (k : kx_T) : List Frame := k.1.2.2.2.2.2.2.2.1
abbrev kMe (k : kx_T) : Method := k.1.2.2.2.2.2.2.2.2.1
abbrev kC (k : kx_T) : Code := k.1.2.2.2.2.2.2.2.2.2.1
abbrev kQ (k : kx_T) : State → Prop := k.1.2.2.2.2.2.2.2.2.2.2
abbrev kS0 (k : kx_T) : State := k.2.1
abbrev kD (k : kx_T) : va_G := k.2.2.1
abbrev kTy (k : kx_T) : List (ClassId × FieldType) := k.2.2.2.1
abbrev kOwn (k : kx_T) : String := k.2.2.2.2.1
abbrev kCc (k : kx_T) : ByteArray := k.2.2.2.2.2.1
abbrev kN (k : kx_T) : Nat := k.2.2.2.2.2.2
/-- the words that stay true while tables grow warm -/
def gT : List Cond := lw_tbl.filter goodWord
theorem gT_of {w : Cond} (h : w ∈ lw_tbl) (g : goodWord w = true) : w ∈ gT := List.mem_filter.mpr ⟨h, g⟩
/-- the cells that may change: all from the law's first heap on -/
abbrev kF (k : kx_T) : Nat → Prop := fun q => (kS0 k).heap.size ≤ q
/-- what holds all through an activation -/
def kx_ok (k : kx_T) : Prop :=
  (kP k).tables.exec = Jvm.exec ∧ (kC k).code = kCc k ∧ (kC k).maxLocals = kN k ∧ (kS k).vm.findClass (kOwn k) = some (kM k).cls ∧ (kS0 k).WarmedH (kS k).vm ∧
  va_K (kD k) vwCl (kTy k) (kS k) ∧ (kS0 k).heap.size ≤ (kS k).heap.size ∧ (∀ q : Nat, q < (kS0 k).heap.size → (kS k).heap[q]? = (kS0 k).heap[q]?) ∧ (kMe k).locks = false ∧ ∀ w ∈ gT, w.before (kA k) (kS k) = true
abbrev kx_W (k : kx_T) (H : Heap) (locs : List Loc) (ce sl : Nat) (g : JFrame) : Prop := W (kP k) (kL k) (kE k) (kR k) (kS k) (kM k) (kA k) (kB k) (kMe k) (kC k) H locs ce sl (kQ k) g
/-- from every heap that holds the world ws, every row of locals that holds lv: the machine comes to its goal -/
def WS (k : kx_T) (pc : Nat) (lv : List (Nat × Value)) (st : List Value) (ws : va_W) (ce sl : Nat) : Prop :=
  ∀ (H : Heap) (locs : List Loc) (ls : Array Slot), va_P (kD k) vwCl ws H → va_D (kF k) ws → va_S (kF k) (kS k).heap H locs → lv_has ls (kN k) lv → kx_W k H locs ce sl (F0 (kM k) pc ls st)
section L1
variable {k : kx_T} {pc : Nat} {lv : List (Nat × Value)} {st : List Value} {ws : va_W} {ce sl : Nat}
theorem kx_wd (C : kx_ok k) : ∀ w ∈ gT, w.before (kA k) (kS k) = true := C.2.2.2.2.2.2.2.2.2
theorem kx_K (C : kx_ok k) : va_K (kD k) vwCl (kTy k) (kS k) := C.2.2.2.2.2.1
theorem kx_new (C : kx_ok k) : ∀ q, (kS k).heap.size ≤ q → kF k q := fun _ h => Nat.le_trans C.2.2.2.2.2.2.1 h
theorem lv_mono {ls : Array Slot} {n : Nat} {l l' : List (Nat × Value)} (h : lv_has ls n l) (hs : ∀ q ∈ l', q ∈ l) : lv_has ls n l' := ⟨h.1, h.2.1, fun q hq => h.2.2 q (hs q hq)⟩
theorem lv_mem {ls : Array Slot} {n i : Nat} {v : Value} {l : List (Nat × Value)} (h : lv_has ls n l) (hm : (i, v) ∈ l) : ls[i]? = some (.val v) := h.2.2 (i, v) hm
theorem w_iconst (C : kx_ok k) {n : Int} (d : decode (kCc k) pc = .ok (.iconst n, 1)) (h : WS k (pc + 1) lv (.int (Int32.ofInt n) :: st) ws ce sl) : WS k pc lv st ws ce sl :=
  fun H locs ls hP hD hS hl => lv_iconst C.1 C.2.1 d rfl (h H locs ls hP hD hS hl)
theorem w_bipush (C : kx_ok k) {n : Int} (d : decode (kCc k) pc = .ok (.bipush n, 2)) {z : Int32} (hz : (Int8.ofInt n).toInt32 = z) (h : WS k (pc + 2) lv (.int z :: st) ws ce sl) : WS k pc lv st ws ce sl :=
  fun H locs ls hP hD hS hl => lv_bipush C.1 C.2.1 d hz (h H locs ls hP hD hS hl)
theorem w_sipush (C : kx_ok k) {n : Int} (d : decode (kCc k) pc = .ok (.sipush n, 3)) {z : Int32} (hz : (Int16.ofInt n).toInt32 = z) (h : WS k (pc + 3) lv (.int z :: st) ws ce sl) : WS k pc lv st ws ce sl :=
  fun H locs ls hP hD hS hl => lv_sipush C.1 C.2.1 d hz (h H locs ls hP hD hS hl)
theorem w_lconst (C : kx_ok k) {n : Fin 2} (d : decode (kCc k) pc = .ok (.lconst n, 1)) {z : Int64} (hz : Int64.ofNat (n : Nat) = z) (h : WS k (pc + 1) lv (.long z :: st) ws ce sl) : WS k pc lv st ws ce sl :=
  fun H locs ls hP hD hS hl => lv_lconst C.1 C.2.1 d hz (h H locs ls hP hD hS hl)
theorem w_iload_n (C : kx_ok k) {i : Fin 4} (d : decode (kCc k) pc = .ok (.iload_n i, 1)) {x : Int32} (hm : ((i : Nat), Value.int x) ∈ lv) (h : WS k (pc + 1) lv (.int x :: st) ws ce sl) : WS k pc lv st ws ce sl :=
  fun H locs ls hP hD hS hl => lv_iload_n C.1 C.2.1 d rfl (lv_mem hl hm) (h H locs ls hP hD hS hl)
theorem w_iload (C : kx_ok k) {i : Nat} (d : decode (kCc k) pc = .ok (.iload i, 2)) {x : Int32} (hm : (i, Value.int x) ∈ lv) (h : WS k (pc + 2) lv (.int x :: st) ws ce sl) : WS k pc lv st ws ce sl :=
  fun H locs ls hP hD hS hl => lv_iload C.1 C.2.1 d (lv_mem hl hm) (h H locs ls hP hD hS hl)
theorem w_lload_n (C : kx_ok k) {i : Fin 4} (d : decode (kCc k) pc = .ok (.lload_n i, 1)) {x : Int64} (hm : ((i : Nat), Value.long x) ∈ lv) (h : WS k (pc + 1) lv (.long x :: st) ws ce sl) : WS k pc lv st ws ce sl :=
  fun H locs ls hP hD hS hl => lv_lload_n C.1 C.2.1 d rfl (lv_mem hl hm) (h H locs ls hP hD hS hl)
theorem w_lload (C : kx_ok k) {i : Nat} (d : decode (kCc k) pc = .ok (.lload i, 2)) {x : Int64} (hm : (i, Value.long x) ∈ lv) (h : WS k (pc + 2) lv (.long x :: st) ws ce sl) : WS k pc lv st ws ce sl :=
  fun H locs ls hP hD hS hl => lv_lload C.1 C.2.1 d (lv_mem hl hm) (h H locs ls hP hD hS hl)
theorem w_aload_n (C : kx_ok k) {i : Fin 4} (d : decode (kCc k) pc = .ok (.aload_n i, 1)) {x : Nat} (hm : ((i : Nat), Value.ref x) ∈ lv) (h : WS k (pc + 1) lv (.ref x :: st) ws ce sl) : WS k pc lv st ws ce sl :=
  fun H locs ls hP hD hS hl => lv_aload_n C.1 C.2.1 d rfl (lv_mem hl hm) (h H locs ls hP hD hS hl)
theorem w_aload (C : kx_ok k) {i : Nat} (d : decode (kCc k) pc = .ok (.aload i, 2)) {x : Nat} (hm : (i, Value.ref x) ∈ lv) (h : WS k (pc + 2) lv (.ref x :: st) ws ce sl) : WS k pc lv st ws ce sl :=
  fun H locs ls hP hD hS hl => lv_aload C.1 C.2.1 d (lv_mem hl hm) (h H locs ls hP hD hS hl)
/-- what stays of the locals behind a store at i -/
def lv_but (i : Nat) (lv : List (Nat × Value)) : List (Nat × Value) := lv.filter (fun q => !(q.1 == i) && !(q.1 + 1 == i && q.2.category == 2))
def lv_but2 (i : Nat) (lv : List (Nat × Value)) : List (Nat × Value) := lv.filter (fun q => !(q.1 == i) && (!(q.1 == i + 1) && !(q.1 + 1 == i && q.2.category == 2)))
theorem w_istore_n (C : kx_ok k) {i : Fin 4} {x : Int32} {lv' : List (Nat × Value)} (d : decode (kCc k) pc = .ok (.istore_n i, 1)) (hn : (i : Nat) < kN k) (hs : ∀ q ∈ lv', q ∈ ((i : Nat), Value.int x) :: lv_but i lv) (h : WS k (pc + 1) lv' st ws ce sl) : WS k pc lv (.int x :: st) ws ce sl :=
  fun H locs ls hP hD hS hl => lv_istore_n C.1 C.2.1 d rfl hl hn rfl (fun ls' hl' => h H locs ls' hP hD hS (lv_mono hl' hs))
theorem w_istore (C : kx_ok k) {i : Nat} {x : Int32} {lv' : List (Nat × Value)} (d : decode (kCc k) pc = .ok (.istore i, 2)) (hn : i < kN k) (hs : ∀ q ∈ lv', q ∈ (i, Value.int x) :: lv_but i lv) (h : WS k (pc + 2) lv' st ws ce sl) : WS k pc lv (.int x :: st) ws ce sl :=
  fun H locs ls hP hD hS hl => lv_istore C.1 C.2.1 d hl hn rfl (fun ls' hl' => h H locs ls' hP hD hS (lv_mono hl' hs))
theorem w_lstore_n (C : kx_ok k) {i : Fin 4} {x : Int64} {lv' : List (Nat × Value)} (d : decode (kCc k) pc = .ok (.lstore_n i, 1)) (hn : (i : Nat) + 1 < kN k) (hs : ∀ q ∈ lv', q ∈ ((i : Nat), Value.long x) :: lv_but2 i lv) (h : WS k (pc + 1) lv' st ws ce sl) : WS k pc lv (.long x :: st) ws ce sl :=
  fun H locs ls hP hD hS hl => lv_lstore_n C.1 C.2.1 d rfl hl hn rfl (fun ls' hl' => h H locs ls' hP hD hS (lv_mono hl' hs))
theorem w_lstore (C : kx_ok k) {i : Nat} {x : Int64} {lv' : List (Nat × Value)} (d : decode (kCc k) pc = .ok (.lstore i, 2)) (hn : i + 1 < kN k) (hs : ∀ q ∈ lv', q ∈ (i, Value.long x) :: lv_but2 i lv) (h : WS k (pc + 2) lv' st ws ce sl) : WS k pc lv (.long x :: st) ws ce sl :=
  fun H locs ls hP hD hS hl => lv_lstore C.1 C.2.1 d hl hn rfl (fun ls' hl' => h H locs ls' hP hD hS (lv_mono hl' hs))
theorem w_astore_n (C : kx_ok k) {i : Fin 4} {x : Nat} {lv' : List (Nat × Value)} (d : decode (kCc k) pc = .ok (.astore_n i, 1)) (hn : (i : Nat) < kN k) (hs : ∀ q ∈ lv', q ∈ ((i : Nat), Value.ref x) :: lv_but i lv) (h : WS k (pc + 1) lv' st ws ce sl) : WS k pc lv (.ref x :: st) ws ce sl :=
  fun H locs ls hP hD hS hl => lv_astore_n C.1 C.2.1 d rfl hl hn rfl (fun ls' hl' => h H locs ls' hP hD hS (lv_mono hl' hs))
theorem w_astore (C : kx_ok k) {i : Nat} {x : Nat} {lv' : List (Nat × Value)} (d : decode (kCc k) pc = .ok (.astore i, 2)) (hn : i < kN k) (hs : ∀ q ∈ lv', q ∈ (i, Value.ref x) :: lv_but i lv) (h : WS k (pc + 2) lv' st ws ce sl) : WS k pc lv (.ref x :: st) ws ce sl :=
  fun H locs ls hP hD hS hl => lv_astore C.1 C.2.1 d hl hn rfl (fun ls' hl' => h H locs ls' hP hD hS (lv_mono hl' hs))
theorem w_iinc (C : kx_ok k) {i : Nat} {n : Int} {x : Int32} {lv' : List (Nat × Value)} (d : decode (kCc k) pc = .ok (.iinc i n, 3)) (hn : i < kN k) (hm : (i, Value.int x) ∈ lv) (hs : ∀ q ∈ lv', q ∈ (i, Value.int (x + Int32.ofInt n)) :: lv_but i lv) (h : WS k (pc + 3) lv' st ws ce sl) : WS k pc lv st ws ce sl := by
  intro H locs ls hP hD hS hl
  obtain ⟨j, hj⟩ := List.mem_iff_getElem?.mp hm
  exact lv_iinc C.1 C.2.1 d hl hj rfl hn rfl (fun ls' hl' => h H locs ls' hP hD hS (lv_mono hl' hs))
theorem w_iadd (C : kx_ok k) {x y : Int32} (d : decode (kCc k) pc = .ok (.iadd, 1)) (h : WS k (pc + 1) lv (.int (x + y) :: st) ws ce sl) : WS k pc lv (.int y :: .int x :: st) ws ce sl :=
  fun H locs ls hP hD hS hl => lv_iadd C.1 C.2.1 d (h H locs ls hP hD hS hl)
theorem w_isub (C : kx_ok k) {x y : Int32} (d : decode (kCc k) pc = .ok (.isub, 1)) (h : WS k (pc + 1) lv (.int (x - y) :: st) ws ce sl) : WS k pc lv (.int y :: .int x :: st) ws ce sl :=
  fun H locs ls hP hD hS hl => lv_isub C.1 C.2.1 d (h H locs ls hP hD hS hl)
theorem w_imul (C : kx_ok k) {x y : Int32} (d : decode (kCc k) pc = .ok (.imul, 1)) (h : WS k (pc + 1) lv (.int (x * y) :: st) ws ce sl) : WS k pc lv (.int y :: .int x :: st) ws ce sl :=
  fun H locs ls hP hD hS hl => lv_imul C.1 C.2.1 d (h H locs ls hP hD hS hl)
theorem w_iand (C : kx_ok k) {x y : Int32} (d : decode (kCc k) pc = .ok (.iand, 1)) (h : WS k (pc + 1) lv (.int (x &&& y) :: st) ws ce sl) : WS k pc lv (.int y :: .int x :: st) ws ce sl :=
  fun H locs ls hP hD hS hl => lv_iand C.1 C.2.1 d (h H locs ls hP hD hS hl)
theorem w_ior (C : kx_ok k) {x y : Int32} (d : decode (kCc k) pc = .ok (.ior, 1)) (h : WS k (pc + 1) lv (.int (x ||| y) :: st) ws ce sl) : WS k pc lv (.int y :: .int x :: st) ws ce sl :=
  fun H locs ls hP hD hS hl => lv_ior C.1 C.2.1 d (h H locs ls hP hD hS hl)
theorem w_ixor (C : kx_ok k) {x y : Int32} (d : decode (kCc k) pc = .ok (.ixor, 1)) (h : WS k (pc + 1) lv (.int (x ^^^ y) :: st) ws ce sl) : WS k pc lv (.int y :: .int x :: st) ws ce sl :=
  fun H locs ls hP hD hS hl => lv_ixor C.1 C.2.1 d (h H locs ls hP hD hS hl)
theorem w_ishl (C : kx_ok k) {x y : Int32} (d : decode (kCc k) pc = .ok (.ishl, 1)) (h : WS k (pc + 1) lv (.int (x <<< (y &&& 31)) :: st) ws ce sl) : WS k pc lv (.int y :: .int x :: st) ws ce sl :=
  fun H locs ls hP hD hS hl => lv_ishl C.1 C.2.1 d (h H locs ls hP hD hS hl)
theorem w_ishr (C : kx_ok k) {x y : Int32} (d : decode (kCc k) pc = .ok (.ishr, 1)) (h : WS k (pc + 1) lv (.int (x >>> (y &&& 31)) :: st) ws ce sl) : WS k pc lv (.int y :: .int x :: st) ws ce sl :=
  fun H locs ls hP hD hS hl => lv_ishr C.1 C.2.1 d (h H locs ls hP hD hS hl)
theorem w_ladd (C : kx_ok k) {x y : Int64} (d : decode (kCc k) pc = .ok (.ladd, 1)) (h : WS k (pc + 1) lv (.long (x + y) :: st) ws ce sl) : WS k pc lv (.long y :: .long x :: st) ws ce sl :=
  fun H locs ls hP hD hS hl => lv_ladd C.1 C.2.1 d (h H locs ls hP hD hS hl)
theorem w_lsub (C : kx_ok k) {x y : Int64} (d : decode (kCc k) pc = .ok (.lsub, 1)) (h : WS k (pc + 1) lv (.long (x - y) :: st) ws ce sl) : WS k pc lv (.long y :: .long x :: st) ws ce sl :=
  fun H locs ls hP hD hS hl => lv_lsub C.1 C.2.1 d (h H locs ls hP hD hS hl)
theorem w_land (C : kx_ok k) {x y : Int64} (d : decode (kCc k) pc = .ok (.land, 1)) (h : WS k (pc + 1) lv (.long (x &&& y) :: st) ws ce sl) : WS k pc lv (.long y :: .long x :: st) ws ce sl :=
  fun H locs ls hP hD hS hl => lv_land C.1 C.2.1 d (h H locs ls hP hD hS hl)
theorem w_lor (C : kx_ok k) {x y : Int64} (d : decode (kCc k) pc = .ok (.lor, 1)) (h : WS k (pc + 1) lv (.long (x ||| y) :: st) ws ce sl) : WS k pc lv (.long y :: .long x :: st) ws ce sl :=
  fun H locs ls hP hD hS hl => lv_lor C.1 C.2.1 d (h H locs ls hP hD hS hl)
theorem w_lxor (C : kx_ok k) {x y : Int64} (d : decode (kCc k) pc = .ok (.lxor, 1)) (h : WS k (pc + 1) lv (.long (x ^^^ y) :: st) ws ce sl) : WS k pc lv (.long y :: .long x :: st) ws ce sl :=
  fun H locs ls hP hD hS hl => lv_lxor C.1 C.2.1 d (h H locs ls hP hD hS hl)
theorem w_ineg (C : kx_ok k) {x : Int32} (d : decode (kCc k) pc = .ok (.ineg, 1)) (h : WS k (pc + 1) lv (.int (-x) :: st) ws ce sl) : WS k pc lv (.int x :: st) ws ce sl :=
  fun H locs ls hP hD hS hl => lv_ineg C.1 C.2.1 d (h H locs ls hP hD hS hl)
theorem w_lneg (C : kx_ok k) {x : Int64} (d : decode (kCc k) pc = .ok (.lneg, 1)) (h : WS k (pc + 1) lv (.long (-x) :: st) ws ce sl) : WS k pc lv (.long x :: st) ws ce sl :=
  fun H locs ls hP hD hS hl => lv_lneg C.1 C.2.1 d (h H locs ls hP hD hS hl)
theorem w_idiv (C : kx_ok k) {x y : Int32} (d : decode (kCc k) pc = .ok (.idiv, 1)) (hne : ¬ y = 0) (h : WS k (pc + 1) lv (.int (x / y) :: st) ws ce sl) : WS k pc lv (.int y :: .int x :: st) ws ce sl :=
  fun H locs ls hP hD hS hl => lv_idiv C.1 C.2.1 d hne (h H locs ls hP hD hS hl)
theorem w_irem (C : kx_ok k) {x y : Int32} (d : decode (kCc k) pc = .ok (.irem, 1)) (hne : ¬ y = 0) (h : WS k (pc + 1) lv (.int (x - x / y * y) :: st) ws ce sl) : WS k pc lv (.int y :: .int x :: st) ws ce sl :=
  fun H locs ls hP hD hS hl => lv_irem C.1 C.2.1 d hne (h H locs ls hP hD hS hl)
theorem w_iushr (C : kx_ok k) {x y : Int32} (d : decode (kCc k) pc = .ok (.iushr, 1)) (h : WS k (pc + 1) lv (.int ((x.toUInt32 >>> (y.toUInt32 &&& Int32.toUInt32 31)).toInt32) :: st) ws ce sl) : WS k pc lv (.int y :: .int x :: st) ws ce sl :=
  fun H locs ls hP hD hS hl => lv_iushr C.1 C.2.1 d rfl (h H locs ls hP hD hS hl)
theorem w_lushr (C : kx_ok k) {x : Int64} {y : Int32} (d : decode (kCc k) pc = .ok (.lushr, 1)) (h : WS k (pc + 1) lv (.long ((x.toUInt64 >>> (y.toInt64.toUInt64 &&& Int64.toUInt64 63)).toInt64) :: st) ws ce sl) : WS k pc lv (.int y :: .long x :: st) ws ce sl :=
  fun H locs ls hP hD hS hl => lv_lushr C.1 C.2.1 d rfl (h H locs ls hP hD hS hl)
theorem w_lshl (C : kx_ok k) {x : Int64} {y : Int32} (d : decode (kCc k) pc = .ok (.lshl, 1)) (h : WS k (pc + 1) lv (.long (x <<< (y.toInt64 &&& 63)) :: st) ws ce sl) : WS k pc lv (.int y :: .long x :: st) ws ce sl :=
  fun H locs ls hP hD hS hl => lv_lshl C.1 C.2.1 d rfl (h H locs ls hP hD hS hl)
theorem w_lcmp (C : kx_ok k) {x y : Int64} (d : decode (kCc k) pc = .ok (.lcmp, 1)) (h : WS k (pc + 1) lv (.int (lg_cmp x y) :: st) ws ce sl) : WS k pc lv (.long y :: .long x :: st) ws ce sl :=
  fun H locs ls hP hD hS hl => W.lcmp C.1 C.2.1 d (h H locs ls hP hD hS hl)
theorem w_i2l (C : kx_ok k) {x : Int32} (d : decode (kCc k) pc = .ok (.i2l, 1)) (h : WS k (pc + 1) lv (.long x.toInt64 :: st) ws ce sl) : WS k pc lv (.int x :: st) ws ce sl :=
  fun H locs ls hP hD hS hl => lv_i2l C.1 C.2.1 d rfl (h H locs ls hP hD hS hl)
theorem w_l2i (C : kx_ok k) {x : Int64} (d : decode (kCc k) pc = .ok (.l2i, 1)) (h : WS k (pc + 1) lv (.int x.toInt32 :: st) ws ce sl) : WS k pc lv (.long x :: st) ws ce sl :=
  fun H locs ls hP hD hS hl => lv_l2i C.1 C.2.1 d rfl (h H locs ls hP hD hS hl)
theorem w_dup (C : kx_ok k) {x : Value} (d : decode (kCc k) pc = .ok (.dup, 1)) (hx : x.category = 1) (h : WS k (pc + 1) lv (x :: x :: st) ws ce sl) : WS k pc lv (x :: st) ws ce sl :=
  fun H locs ls hP hD hS hl => lv_dup C.1 C.2.1 d hx (h H locs ls hP hD hS hl)
theorem w_pop (C : kx_ok k) {x : Value} (d : decode (kCc k) pc = .ok (.pop, 1)) (hx : x.category = 1) (h : WS k (pc + 1) lv st ws ce sl) : WS k pc lv (x :: st) ws ce sl :=
  fun H locs ls hP hD hS hl => lv_pop C.1 C.2.1 d hx (h H locs ls hP hD hS hl)
theorem w_dup2_11 (C : kx_ok k) {x y : Value} (d : decode (kCc k) pc = .ok (.dup2, 1)) (hx : x.category = 1) (hy : y.category = 1) (h : WS k (pc + 1) lv (x :: y :: x :: y :: st) ws ce sl) : WS k pc lv (x :: y :: st) ws ce sl :=
  fun H locs ls hP hD hS hl => lv_dup2_11 C.1 C.2.1 d hx hy (h H locs ls hP hD hS hl)
theorem w_dup2_2 (C : kx_ok k) {x : Value} (d : decode (kCc k) pc = .ok (.dup2, 1)) (hx : x.category = 2) (h : WS k (pc + 1) lv (x :: x :: st) ws ce sl) : WS k pc lv (x :: st) ws ce sl :=
  fun H locs ls hP hD hS hl => lv_dup2_2 C.1 C.2.1 d hx (h H locs ls hP hD hS hl)
theorem w_icmp_eq (C : kx_ok k) {x y : Int32} {off : Int} {t : Nat} (d : decode (kCc k) pc = .ok (.if_icmp .eq off, 3)) (ht : (pc : Int) + off = (t : Int)) (h1 : x = y → WS k t lv st ws ce sl) (h2 : ¬ (x = y) → WS k (pc + 3) lv st ws ce sl) : WS k pc lv (.int y :: .int x :: st) ws ce sl :=
  fun H locs ls hP hD hS hl => lv_icmp_eq C.1 C.2.1 d ht (fun q => h1 q H locs ls hP hD hS hl) (fun q => h2 q H locs ls hP hD hS hl)
theorem w_if_eq (C : kx_ok k) {x : Int32} {off : Int} {t : Nat} (d : decode (kCc k) pc = .ok (.ifCond .eq off, 3)) (ht : (pc : Int) + off = (t : Int)) (h1 : x = 0 → WS k t lv st ws ce sl) (h2 : ¬ (x = 0) → WS k (pc + 3) lv st ws ce sl) : WS k pc lv (.int x :: st) ws ce sl :=
  fun H locs ls hP hD hS hl => lv_if_eq C.1 C.2.1 d ht (fun q => h1 q H locs ls hP hD hS hl) (fun q => h2 q H locs ls hP hD hS hl)
theorem w_icmp_ne (C : kx_ok k) {x y : Int32} {off : Int} {t : Nat} (d : decode (kCc k) pc = .ok (.if_icmp .ne off, 3)) (ht : (pc : Int) + off = (t : Int)) (h1 : x ≠ y → WS k t lv st ws ce sl) (h2 : x = y → WS k (pc + 3) lv st ws ce sl) : WS k pc lv (.int y :: .int x :: st) ws ce sl :=
  fun H locs ls hP hD hS hl => lv_icmp_ne C.1 C.2.1 d ht (fun q => h1 q H locs ls hP hD hS hl) (fun q => h2 q H locs ls hP hD hS hl)
theorem w_if_ne (C : kx_ok k) {x : Int32} {off : Int} {t : Nat} (d : decode (kCc k) pc = .ok (.ifCond .ne off, 3)) (ht : (pc : Int) + off = (t : Int)) (h1 : x ≠ 0 → WS k t lv st ws ce sl) (h2 : x = 0 → WS k (pc + 3) lv st ws ce sl) : WS k pc lv (.int x :: st) ws ce sl :=
  fun H locs ls hP hD hS hl => lv_if_ne C.1 C.2.1 d ht (fun q => h1 q H locs ls hP hD hS hl) (fun q => h2 q H locs ls hP hD hS hl)
theorem w_icmp_lt (C : kx_ok k) {x y : Int32} {off : Int} {t : Nat} (d : decode (kCc k) pc = .ok (.if_icmp .lt off, 3)) (ht : (pc : Int) + off = (t : Int)) (h1 : x < y → WS k t lv st ws ce sl) (h2 : ¬ (x < y) → WS k (pc + 3) lv st ws ce sl) : WS k pc lv (.int y :: .int x :: st) ws ce sl :=
  fun H locs ls hP hD hS hl => lv_icmp_lt C.1 C.2.1 d ht (fun q => h1 q H locs ls hP hD hS hl) (fun q => h2 q H locs ls hP hD hS hl)
theorem w_if_lt (C : kx_ok k) {x : Int32} {off : Int} {t : Nat} (d : decode (kCc k) pc = .ok (.ifCond .lt off, 3)) (ht : (pc : Int) + off = (t : Int)) (h1 : x < 0 → WS k t lv st ws ce sl) (h2 : ¬ (x < 0) → WS k (pc + 3) lv st ws ce sl) : WS k pc lv (.int x :: st) ws ce sl :=
  fun H locs ls hP hD hS hl => lv_if_lt C.1 C.2.1 d ht (fun q => h1 q H locs ls hP hD hS hl) (fun q => h2 q H locs ls hP hD hS hl)
theorem w_icmp_ge (C : kx_ok k) {x y : Int32} {off : Int} {t : Nat} (d : decode (kCc k) pc = .ok (.if_icmp .ge off, 3)) (ht : (pc : Int) + off = (t : Int)) (h1 : y ≤ x → WS k t lv st ws ce sl) (h2 : ¬ (y ≤ x) → WS k (pc + 3) lv st ws ce sl) : WS k pc lv (.int y :: .int x :: st) ws ce sl :=
  fun H locs ls hP hD hS hl => lv_icmp_ge C.1 C.2.1 d ht (fun q => h1 q H locs ls hP hD hS hl) (fun q => h2 q H locs ls hP hD hS hl)
theorem w_if_ge (C : kx_ok k) {x : Int32} {off : Int} {t : Nat} (d : decode (kCc k) pc = .ok (.ifCond .ge off, 3)) (ht : (pc : Int) + off = (t : Int)) (h1 : 0 ≤ x → WS k t lv st ws ce sl) (h2 : ¬ (0 ≤ x) → WS k (pc + 3) lv st ws ce sl) : WS k pc lv (.int x :: st) ws ce sl :=
  fun H locs ls hP hD hS hl => lv_if_ge C.1 C.2.1 d ht (fun q => h1 q H locs ls hP hD hS hl) (fun q => h2 q H locs ls hP hD hS hl)
theorem w_icmp_gt (C : kx_ok k) {x y : Int32} {off : Int} {t : Nat} (d : decode (kCc k) pc = .ok (.if_icmp .gt off, 3)) (ht : (pc : Int) + off = (t : Int)) (h1 : y < x → WS k t lv st ws ce sl) (h2 : ¬ (y < x) → WS k (pc + 3) lv st ws ce sl) : WS k pc lv (.int y :: .int x :: st) ws ce sl :=
  fun H locs ls hP hD hS hl => lv_icmp_gt C.1 C.2.1 d ht (fun q => h1 q H locs ls hP hD hS hl) (fun q => h2 q H locs ls hP hD hS hl)
theorem w_if_gt (C : kx_ok k) {x : Int32} {off : Int} {t : Nat} (d : decode (kCc k) pc = .ok (.ifCond .gt off, 3)) (ht : (pc : Int) + off = (t : Int)) (h1 : 0 < x → WS k t lv st ws ce sl) (h2 : ¬ (0 < x) → WS k (pc + 3) lv st ws ce sl) : WS k pc lv (.int x :: st) ws ce sl :=
  fun H locs ls hP hD hS hl => lv_if_gt C.1 C.2.1 d ht (fun q => h1 q H locs ls hP hD hS hl) (fun q => h2 q H locs ls hP hD hS hl)
theorem w_icmp_le (C : kx_ok k) {x y : Int32} {off : Int} {t : Nat} (d : decode (kCc k) pc = .ok (.if_icmp .le off, 3)) (ht : (pc : Int) + off = (t : Int)) (h1 : x ≤ y → WS k t lv st ws ce sl) (h2 : ¬ (x ≤ y) → WS k (pc + 3) lv st ws ce sl) : WS k pc lv (.int y :: .int x :: st) ws ce sl :=
  fun H locs ls hP hD hS hl => lv_icmp_le C.1 C.2.1 d ht (fun q => h1 q H locs ls hP hD hS hl) (fun q => h2 q H locs ls hP hD hS hl)
theorem w_if_le (C : kx_ok k) {x : Int32} {off : Int} {t : Nat} (d : decode (kCc k) pc = .ok (.ifCond .le off, 3)) (ht : (pc : Int) + off = (t : Int)) (h1 : x ≤ 0 → WS k t lv st ws ce sl) (h2 : ¬ (x ≤ 0) → WS k (pc + 3) lv st ws ce sl) : WS k pc lv (.int x :: st) ws ce sl :=
  fun H locs ls hP hD hS hl => lv_if_le C.1 C.2.1 d ht (fun q => h1 q H locs ls hP hD hS hl) (fun q => h2 q H locs ls hP hD hS hl)
theorem w_goto (C : kx_ok k) {off : Int} {t : Nat} (d : decode (kCc k) pc = .ok (.goto off, 3)) (ht : (pc : Int) + off = (t : Int)) (h : WS k t lv st ws ce sl) : WS k pc lv st ws ce sl :=
  fun H locs ls hP hD hS hl => lv_goto C.1 C.2.1 d ht (h H locs ls hP hD hS hl)
theorem w_tabOut (C : kx_ok k) {dflt lo hi : Int} {offs : Array Int} {len : Nat} {x : Int32} {t : Nat} (d : decode (kCc k) pc = .ok (.tableswitch dflt lo hi offs, len)) (hx : x.toInt < lo ∨ hi < x.toInt) (ht : (pc : Int) + dflt = (t : Int)) (h : WS k t lv st ws ce sl) : WS k pc lv (.int x :: st) ws ce sl :=
  fun H locs ls hP hD hS hl => lv_tableOut C.1 C.2.1 d hx ht (h H locs ls hP hD hS hl)
theorem w_tabIn (C : kx_ok k) {dflt lo hi off : Int} {offs : Array Int} {len : Nat} {x : Int32} {t : Nat} (d : decode (kCc k) pc = .ok (.tableswitch dflt lo hi offs, len)) (h1 : ¬ x.toInt < lo) (h2 : ¬ hi < x.toInt) (ho : offs[(x.toInt - lo).toNat]? = some off) (ht : (pc : Int) + off = (t : Int)) (h : WS k t lv st ws ce sl) : WS k pc lv (.int x :: st) ws ce sl :=
  fun H locs ls hP hD hS hl => lv_tableIn C.1 C.2.1 d h1 h2 ho ht (h H locs ls hP hD hS hl)
end L1
end
section
/-! Layer 1: fields, arrays, new things -/
/-- what is known of class ci: its name, fields, their types -/
def cl_ok (ci : Nat) (N : Nat) (C : String) (T : u_T) (ty : Nat → FieldType) : Prop :=
  vwCl[ci]? = some (C, T, N) ∧ (∀ w ∈ u_ws C T N, w ∈ gT) ∧ (∀ j, j < N → parseFieldDescriptor (T j).2.2.1 = some (ty j)) ∧ (∀ a, a < N → ∀ b, b < N → a ≠ b → (T a).2.1 ≠ (T b).2.1)
section L2
variable {k : kx_T} {pc : Nat} {lv : List (Nat × Value)} {st : List Value} {ws : va_W} {ce sl : Nat}
theorem w_get (C : kx_ok k) {idx ci f N a : Nat} {Cn : String} {T : u_T} {ty : Nat → FieldType} {fs : List Value} {v : Value} (q0 : Nat) (hc : cl_ok ci N Cn T ty) (he : ws[q0]? = some (a, .inr (ci, fs))) (hf : f < N) (hl : Cond.fieldLink (kOwn k) idx (T f).1 (T f).2.1 (T f).2.2.1 ∈ gT) (hv : fs[f]? = some v)
    (d : decode (kCc k) pc = .ok (.getfield idx, 3)) (h : WS k (pc + 3) lv (v :: st) ws ce sl) : WS k pc lv (.ref a :: st) ws ce sl :=
  fun H locs ls hP hD hS hlv => va_get C.1 C.2.1 (kx_wd C) hc.2.1 C.2.2.2.1 (kx_K C) hP q0 he hc.1 f hf (kx_wd C _ hl) (fun _ q => q) hv d (h H locs ls hP hD hS hlv)
theorem w_put (C : kx_ok k) {idx ci f N a : Nat} {Cn : String} {T : u_T} {ty : Nat → FieldType} {fs : List Value} {v : Value} (q0 : Nat) (hc : cl_ok ci N Cn T ty) (he : ws[q0]? = some (a, .inr (ci, fs))) (hf : f < N) (hl : Cond.fieldLink (kOwn k) idx (T f).1 (T f).2.1 (T f).2.2.1 ∈ gT) (hn : narrow (ty f) v = v) (hfit : fits (ty f) v = true) (hfs : f < fs.length)
    (hfin : (T f).2.2.2 = false ∨ ((T f).2.2.2 = true ∧ (kMe k).name = "<init>" ∧ (T f).1 = kOwn k))
    (d : decode (kCc k) pc = .ok (.putfield idx, 3)) (h : WS k (pc + 3) lv st (ws.set q0 (a, .inr (ci, fs.set f v))) ce sl) : WS k pc lv (v :: .ref a :: st) ws ce sl := by
  intro H locs ls hP hD hS hlv
  rcases hfin with h1 | ⟨h1, h2, h3⟩
  · exact va_put C.1 C.2.1 (kx_wd C) hc.2.1 ty hc.2.2.1 hc.2.2.2 C.2.2.2.1 (kx_K C) hP hD hS q0 he hc.1 f hf (kx_wd C _ hl) (fun _ q => q) h1 (hc.2.2.1 f hf) hn hfit hfs d (fun H1 l1 p1 p2 p3 => h H1 l1 ls p1 p2 p3 hlv)
  · exact va_putF C.1 C.2.1 (kx_wd C) hc.2.1 ty hc.2.2.1 hc.2.2.2 C.2.2.2.1 (kx_K C) hP hD hS q0 he hc.1 f hf (kx_wd C _ hl) (fun _ q => q) h1 h2 h3 (hc.2.2.1 f hf) hn hfit hfs d (fun H1 l1 p1 p2 p3 => h H1 l1 ls p1 p2 p3 hlv)
theorem w_iald (C : kx_ok k) {a n t0 : Nat} {cA : ClassId} {f : Nat → Int32} {i : Int32} (q0 : Nat) (he : ws[q0]? = some (a, .inl (cA, n, .inl f))) (ht : (kTy k)[t0]? = some (cA, .int)) (hi : vp_in i n) (d : decode (kCc k) pc = .ok (.iaload, 1)) (h : WS k (pc + 1) lv (.int (f i.toNatClampNeg) :: st) ws ce sl) : WS k pc lv (.int i :: .ref a :: st) ws ce sl :=
  fun H locs ls hP hD hS hlv => va_iald C.1 C.2.1 (kx_K C) hP q0 t0 he ht hi d (h H locs ls hP hD hS hlv)
theorem w_zald (C : kx_ok k) {a n t0 : Nat} {cA : ClassId} {f : Nat → Int32} {i : Int32} (q0 : Nat) (he : ws[q0]? = some (a, .inl (cA, n, .inl f))) (ht : (kTy k)[t0]? = some (cA, .boolean)) (hi : vp_in i n) (d : decode (kCc k) pc = .ok (.baload, 1)) (h : WS k (pc + 1) lv (.int (f i.toNatClampNeg) :: st) ws ce sl) : WS k pc lv (.int i :: .ref a :: st) ws ce sl :=
  fun H locs ls hP hD hS hlv => va_zald C.1 C.2.1 (kx_K C) hP q0 t0 he ht hi d (h H locs ls hP hD hS hlv)
theorem w_lald (C : kx_ok k) {a n t0 : Nat} {cA : ClassId} {f : Nat → Int64} {i : Int32} (q0 : Nat) (he : ws[q0]? = some (a, .inl (cA, n, .inr (.inl f)))) (ht : (kTy k)[t0]? = some (cA, .long)) (hi : vp_in i n) (d : decode (kCc k) pc = .ok (.laload, 1)) (h : WS k (pc + 1) lv (.long (f i.toNatClampNeg) :: st) ws ce sl) : WS k pc lv (.int i :: .ref a :: st) ws ce sl :=
  fun H locs ls hP hD hS hlv => va_lald C.1 C.2.1 (kx_K C) hP q0 t0 he ht hi d (h H locs ls hP hD hS hlv)
theorem w_aald (C : kx_ok k) {a n t0 : Nat} {cA : ClassId} {ty : FieldType} {f : Nat → Option Nat} {i : Int32} (q0 : Nat) (he : ws[q0]? = some (a, .inl (cA, n, .inr (.inr (.inr (.inr f)))))) (ht : (kTy k)[t0]? = some (cA, ty)) (hr : refKind ty = true) (hi : vp_in i n) (d : decode (kCc k) pc = .ok (.aaload, 1)) (h : WS k (pc + 1) lv (va_rf (f i.toNatClampNeg) :: st) ws ce sl) : WS k pc lv (.int i :: .ref a :: st) ws ce sl := by
  intro H locs ls hP hD hS hlv
  have hlt : i.toNatClampNeg < n := Nat.not_le.mp fun q => hi (Or.inr q)
  exact W.aald (v := va_rf (f i.toNatClampNeg)) (ty := ty) C.1 C.2.1 (hP q0 _ he) (((kx_K C).2 t0 _ ht).1 n (fun j => va_rf (f j))) hr (fun q => by cases q) (by show ¬ (i < 0 ∨ (arrV _ _ _).slots.size ≤ _); rw [arrV_size]; exact hi) (by show (arrV _ _ _).slots[_]? = _; rw [arrV_read _ _ hlt]) rfl rfl d (h H locs ls hP hD hS hlv)
theorem w_iast (C : kx_ok k) {a n t0 : Nat} {cA : ClassId} {f : Nat → Int32} {i x : Int32} (q0 : Nat) (he : ws[q0]? = some (a, .inl (cA, n, .inl f))) (ht : (kTy k)[t0]? = some (cA, .int)) (hi : vp_in i n) (d : decode (kCc k) pc = .ok (.iastore, 1)) (h : WS k (pc + 1) lv st (ws.set q0 (a, .inl (cA, n, .inl (upd f i.toNatClampNeg x)))) ce sl) : WS k pc lv (.int x :: .int i :: .ref a :: st) ws ce sl :=
  fun H locs ls hP hD hS hlv => va_iast C.1 C.2.1 (kx_K C) hP hD hS q0 t0 he ht hi d (fun H1 l1 p1 p2 p3 => h H1 l1 ls p1 p2 p3 hlv)
theorem w_zast (C : kx_ok k) {a n t0 : Nat} {cA : ClassId} {f : Nat → Int32} {i x : Int32} (q0 : Nat) (he : ws[q0]? = some (a, .inl (cA, n, .inl f))) (ht : (kTy k)[t0]? = some (cA, .boolean)) (hi : vp_in i n) (d : decode (kCc k) pc = .ok (.bastore, 1)) (h : WS k (pc + 1) lv st (ws.set q0 (a, .inl (cA, n, .inl (upd f i.toNatClampNeg (vp_nar .boolean x))))) ce sl) : WS k pc lv (.int x :: .int i :: .ref a :: st) ws ce sl :=
  fun H locs ls hP hD hS hlv => va_zast C.1 C.2.1 (kx_K C) hP hD hS q0 t0 he ht hi d (fun H1 l1 p1 p2 p3 => h H1 l1 ls p1 p2 p3 hlv)
theorem w_last (C : kx_ok k) {a n t0 : Nat} {cA : ClassId} {f : Nat → Int64} {i : Int32} {x : Int64} (q0 : Nat) (he : ws[q0]? = some (a, .inl (cA, n, .inr (.inl f)))) (ht : (kTy k)[t0]? = some (cA, .long)) (hi : vp_in i n) (d : decode (kCc k) pc = .ok (.lastore, 1)) (h : WS k (pc + 1) lv st (ws.set q0 (a, .inl (cA, n, .inr (.inl (vp_updL f i.toNatClampNeg x))))) ce sl) : WS k pc lv (.long x :: .int i :: .ref a :: st) ws ce sl :=
  fun H locs ls hP hD hS hlv => va_last C.1 C.2.1 (kx_K C) hP hD hS q0 t0 he ht hi d (fun H1 l1 p1 p2 p3 => h H1 l1 ls p1 p2 p3 hlv)
theorem w_aast (C : kx_ok k) {a n t0 ci v N : Nat} {cA : ClassId} {Cn : String} {T : u_T} {vs : List Value} {f : Nat → Option Nat} {i : Int32} (q0 qk : Nat) (he : ws[q0]? = some (a, .inl (cA, n, .inr (.inr (.inr (.inr f)))))) (ht : (kTy k)[t0]? = some (cA, .object Cn)) (hv : ws[qk]? = some (v, .inr (ci, vs))) (hc : vwCl[ci]? = some (Cn, T, N)) (hi : vp_in i n) (d : decode (kCc k) pc = .ok (.aastore, 1)) (h : WS k (pc + 1) lv st (ws.set q0 (a, .inl (cA, n, .inr (.inr (.inr (.inr (va_up f i.toNatClampNeg (some v)))))))) ce sl) : WS k pc lv (.ref v :: .int i :: .ref a :: st) ws ce sl :=
  fun H locs ls hP hD hS hlv => va_astq C.1 C.2.1 (kx_K C) hP hD hS q0 t0 qk ci he ht hv hc hi d (fun H1 l1 p1 p2 p3 => h H1 l1 ls p1 p2 p3 hlv)
theorem w_alen (C : kx_ok k) {a t0 : Nat} {cA : ClassId} {x : vp_A} {ty : FieldType} (q0 : Nat) (he : ws[q0]? = some (a, .inl (cA, x))) (ht : (kTy k)[t0]? = some (cA, ty)) (d : decode (kCc k) pc = .ok (.arraylength, 1)) (h : WS k (pc + 1) lv (.int (Int32.ofNat x.1) :: st) ws ce sl) : WS k pc lv (.ref a :: st) ws ce sl :=
  fun H locs ls hP hD hS hlv => va_alen C.1 C.2.1 (kx_K C) hP q0 t0 he ht rfl d (h H locs ls hP hD hS hlv)
theorem w_new (C : kx_ok k) {idx ci N : Nat} {Cn : String} {T : u_T} {ty : Nat → FieldType} {fs : List Value} (hc : cl_ok ci N Cn T ty) (hcl : Cond.classLink (kOwn k) idx Cn ∈ gT) (hins : Cond.instantiable Cn N ∈ gT) (hini : Cond.initialized Cn ∈ gT) (hfs : ∀ j, j < N → defaultValue (ty j) = vp_V fs j) (h1 : ce + 1 ≤ (kR k).cells) (h2 : sl + N ≤ (kR k).slots) (d : decode (kCc k) pc = .ok (.new idx, 3))
    (h : ∀ q : Nat, WS k (pc + 3) lv (.ref q :: st) (ws ++ [(q, .inr (ci, fs))]) (ce + 1) (sl + N)) : WS k pc lv st ws ce sl :=
  fun H locs ls hP hD hS hlv => va_new C.1 C.2.1 (kx_wd C) hc.2.1 ty hc.2.2.1 C.2.2.2.1 (kx_wd C _ hcl) (kx_wd C _ hins) (kx_wd C _ hini) (kx_K C) hP hD hS (kx_new C) hc.1 hfs h1 h2 d (fun q H1 p1 p2 p3 => h q H1 locs ls p1 p2 p3 hlv)
/-- the array's class of type t, as the tables have it -/
theorem kx_ty (C : kx_ok k) {t0 : Nat} {cA cB : ClassId} {ty : FieldType} (hno : ∀ n, ty ≠ .object n) (ht : (kTy k)[t0]? = some (cA, ty)) (h : va_RA (kS k) cB ty) : cB = cA := by
  have h1 := ((kx_K C).2 t0 _ ht).2
  cases ty with
  | object n => exact absurd rfl (hno n)
  | _ => exact Option.some.inj (Eq.trans (Eq.symm h) h1)
theorem kx_tyo (C : kx_ok k) {t0 : Nat} {cA cB : ClassId} {n : String} (ht : (kTy k)[t0]? = some (cA, .object n)) (h : va_RA (kS k) cB (.object n)) : cB = cA := by
  obtain ⟨_, _, -, -, -, h1⟩ := ((kx_K C).2 t0 _ ht).2
  obtain ⟨_, _, -, -, -, h2⟩ := h
  exact Option.some.inj (h2.symm.trans h1)
theorem w_newa (C : kx_ok k) {atype : ArrayType} {ty : FieldType} {n : Int32} {N t0 : Nat} {cA : ClassId} {a0 : vp_A} (harr : Cond.arrayClass ty ∈ gT) (hty : newarray.typeOf atype = ty) (hno : ∀ n, ty ≠ .object n) (ht : (kTy k)[t0]? = some (cA, ty)) (ha : vp_cell cA a0 = arrV cA N (fun _ => defaultValue ty)) (ha2 : ∀ c : ClassId, vp_cell c a0 = arrV c N (fun _ => defaultValue ty)) (hn : ¬ n < 0) (hN : n.toNatClampNeg = N) (hb : N * componentBytes ty ≤ 536870912) (h1 : ce + 1 ≤ (kR k).cells) (h2 : sl + N ≤ (kR k).slots) (d : decode (kCc k) pc = .ok (.newarray atype, 2))
    (h : ∀ q : Nat, WS k (pc + 2) lv (.ref q :: st) (ws ++ [(q, .inl (cA, a0))]) (ce + 1) (sl + N)) : WS k pc lv (.int n :: st) ws ce sl := by
  intro H locs ls hP hD hS hlv
  refine va_newa C.1 C.2.1 (by rw [hty]; exact kx_wd C _ harr) hty (kx_K C) hP hD hS (kx_new C) ha2 hn hN hb h1 h2 d (fun q cB H1 hK p1 p2 p3 => ?_)
  have e : cB = cA := kx_ty C hno ht (hK.2 (kTy k).length (cB, ty) (by simp)).2
  subst e
  exact h q H1 locs ls p1 p2 p3 hlv
theorem w_newq (C : kx_ok k) {idx t0 N : Nat} {Cn : String} {n : Int32} {cA : ClassId} (hcl : Cond.classLink (kOwn k) idx Cn ∈ gT) (hov : va_AO Cn (kS k)) (ht : (kTy k)[t0]? = some (cA, .object Cn)) (hn : ¬ n < 0) (hN : n.toNatClampNeg = N) (hb : N * 4 ≤ 536870912) (h1 : ce + 1 ≤ (kR k).cells) (h2 : sl + N ≤ (kR k).slots) (d : decode (kCc k) pc = .ok (.anewarray idx, 3))
    (h : ∀ q : Nat, WS k (pc + 3) lv (.ref q :: st) (ws ++ [(q, .inl (cA, N, .inr (.inr (.inr (.inr (fun _ => none))))))]) (ce + 1) (sl + N)) : WS k pc lv (.int n :: st) ws ce sl := by
  intro H locs ls hP hD hS hlv
  refine va_newq C.1 C.2.1 C.2.2.2.1 (kx_wd C _ hcl) hov (kx_K C) hP hD hS (kx_new C) hn hN hb h1 h2 d (fun q cB H1 hK p1 p2 p3 => ?_)
  have e : cB = cA := kx_tyo C ht (hK.2 (kTy k).length (cB, .object Cn) (by simp)).2
  subst e
  exact h q H1 locs ls p1 p2 p3 hlv
theorem w_objInit (C : kx_ok k) {idx a : Nat} (hl : Cond.methodLink (kOwn k) idx Lib.objectInit ∈ gT) (hi : Cond.instanceMethod Lib.objectInit ∈ gT) (hc : Cond.code Lib.objectInit ⟨#[0xb1]⟩ 1 none ∈ gT) (d : decode (kCc k) pc = .ok (.invokespecial idx, 3)) (h1 : 1 ≤ (kR k).frames) (h2 : (st.map fun v => v.category).sum + 12 ≤ (kR k).locals) (h : WS k (pc + 3) lv st ws ce sl) : WS k pc lv (.ref a :: st) ws ce sl :=
  fun H locs ls hP hD hS hlv => W.objInit C.1 C.2.1 C.2.2.2.1 (kx_wd C _ hl) (kx_wd C _ hi) (kx_wd C _ hc) rfl (hlv.1.trans C.2.2.1.symm) rfl d h1 (by simpa using h2) (h H locs ls hP hD hS hlv)
theorem w_widen {ce' sl' : Nat} (h1 : ce ≤ ce') (h2 : sl ≤ sl') (h : WS k pc lv st ws ce' sl') : WS k pc lv st ws ce sl :=
  fun H locs ls hP hD hS hlv => W.widen h1 h2 (h H locs ls hP hD hS hlv)
end L2
end
section
/-! Layer 1: methods by their whole run, calls, returns, throws -/
/-- how a method ends: with a value (or none), or by an exception of a class -/
abbrev mb_O : Type := Option Value ⊕ String
abbrev mb_F (s0 : State) : Nat → Prop := fun q => s0.heap.size ≤ q
def mb_Q (s0 : State) (D : va_G) (K : mb_O → va_W → Prop) : Array Value → State → Outcome → State → Prop := fun _ st oc t =>
  ∃ (v : Option Value) (ws : va_W), oc = .returned v ∧ K (.inl v) ws ∧ va_P D vwCl ws t.heap ∧ va_D (mb_F s0) ws ∧ va_F (mb_F s0) st t
def mb_X (s0 : State) (D : va_G) (K : mb_O → va_W → Prop) : String → State → State → Prop := fun E st t =>
  ∃ ws : va_W, K (.inr E) ws ∧ va_P D vwCl ws t.heap ∧ va_D (mb_F s0) ws ∧ va_F (mb_F s0) st t
def mb_B (s0 : State) (D : va_G) (ws : va_W) : State → Prop := fun U =>
  s0.WarmedH U.vm ∧ s0.heap.size ≤ U.heap.size ∧ (∀ q : Nat, q < s0.heap.size → U.heap[q]? = s0.heap[q]?) ∧ va_P D vwCl ws U.heap ∧ va_D (mb_F s0) ws
/-- the method y, called with vals in the world ws, ends in one of the ways K -/
def MB (l : Launch) (s0 : State) (D : va_G) (y : MethodName) (wd : Cond) (rm : Room) (vals : List Value) (ws : va_W) (K : mb_O → va_W → Prop) : Prop :=
  vx_Met l y [wd] rm (va_Pc vals (mb_B s0 D ws)) (mb_Q s0 D K) (mb_X s0 D K) rm.cells rm.slots (mb_F s0)
theorem mb_blind {s0 : State} {D : va_G} {ws : va_W} {vals : List Value} : FrameBlind (va_Pc vals (mb_B s0 D ws)) := fun _ _ _ _ q => q
/-- thrown over the frame: an exception of class E -/
def WX (k : kx_T) (pc : Nat) (lv : List (Nat × Value)) (st : List Value) (ws : va_W) (E : String) (ce sl : Nat) : Prop :=
  ∀ (H : Heap) (locs : List Loc) (ls : Array Slot) (q : Addr) (cell : Cell), va_P (kD k) vwCl ws H → va_D (kF k) ws → va_S (kF k) (kS k).heap H locs → lv_has ls (kN k) lv → H[q]? = some cell → cell.vm = .none → (kS k).vm.findClass E = some cell.cls →
    vx_W (kP k) (kL k) (kE k) (kR k) (kS k) (kM k) (kA k) (kB k) (kMe k) (kC k) H locs ce sl (kQ k) (F0 (kM k) pc ls st) q
section L3
variable {k : kx_T} {pc : Nat} {lv : List (Nat × Value)} {st : List Value} {ws : va_W} {ce sl : Nat} {K : mb_O → va_W → Prop} {y : MethodName} {rm : Room} {bytes : ByteArray} {maxL : Nat} {ret : Option FieldType}
/-- behind a call, whatever it brought -/
theorem w_run {H : Heap} {locs : List Loc} {ls : Array Slot} {st0 rest : List Value} {mc ms : Nat} {a : Array Value} (hl : lv_has ls (kN k) lv) (hS : va_S (kF k) (kS k).heap H locs)
    (hr : vx_Run (kP k) (kL k) (kE k) (kR k) (kS k) (kM k) (kA k) (kB k) (kMe k) (kC k) H locs ce sl mc ms (F0 (kM k) pc ls st0) rest (mb_Q (kS0 k) (kD k) K a) (mb_X (kS0 k) (kD k) K) (mb_F (kS0 k)))
    (h1 : ∀ v ws', K (.inl v) ws' → WS k (pc + 3) lv (v.toList ++ rest) ws' (ce + mc) (sl + ms)) (h2 : ∀ E ws', K (.inr E) ws' → WX k pc lv rest ws' E (ce + mc) (sl + ms)) :
    kx_W k H locs ce sl (F0 (kM k) pc ls st0) := by
  intro T hT X
  rcases hr T hT X with ⟨v, st₀, t, T', L, h0, X', hL, e1, e2, ⟨v', ws', hv, hK, hP', hD', hF⟩, stp⟩ | ⟨q, st₀, t, T', L, E, cx, h0, X', hL, e1, e2, ⟨ws', hK, hP', hD', hF⟩, hce, hcv, hcl, stp⟩
  · cases hv
    obtain ⟨-, -, k3⟩ := vx_keep (A0 := kF k) (A1 := kF k) h0 e1 hS (fun _ _ q => q) (fun _ q => q) hL hF
    obtain ⟨t2, a1, b1⟩ := h1 v ws' hK T'.heap (locs ++ L) ls (by rw [e1]; exact hP') hD' k3 hl T' rfl X'
    exact ⟨t2, stp t2 a1, b1⟩
  · obtain ⟨-, -, k3⟩ := vx_keep (A0 := kF k) (A1 := kF k) h0 e1 hS (fun _ _ q => q) (fun _ q => q) hL hF
    obtain ⟨t2, a1, b1⟩ := h2 E ws' hK T'.heap (locs ++ L) ls q cx (by rw [e1]; exact hP') hD' k3 hl (by rw [e1]; exact hce) hcv hcl T' rfl X'
    exact ⟨t2, stp.trans a1, b1⟩
theorem kx_B (C : kx_ok k) {H : Heap} {locs : List Loc} (hP : va_P (kD k) vwCl ws H) (hD : va_D (kF k) ws) (hS : va_S (kF k) (kS k).heap H locs) : ∀ U : State, U.heap = H → (kS k).WarmedH U.vm → mb_B (kS0 k) (kD k) ws U := by
  intro U hU hW
  have h7 := C.2.2.2.2.2.2.1
  refine ⟨State.WarmedH.trans C.2.2.2.2.1 hW, by rw [hU]; exact Nat.le_trans h7 hS.1, fun q hq => ?_, by rw [hU]; exact hP, hD⟩
  rw [hU, hS.2.1 q (Nat.lt_of_lt_of_le hq h7) (Nat.not_le.mpr hq)]
  exact C.2.2.2.2.2.2.2.1 q hq
/-- what a call of y wants of words and room -/
def cb_ok (k : kx_T) (idx : Nat) (y : MethodName) (bytes : ByteArray) (maxL : Nat) (ret : Option FieldType) (rm : Room) (n : Nat) : Prop :=
  Cond.methodLink (kOwn k) idx y ∈ gT ∧ Cond.code y bytes maxL ret ∈ gT ∧ Cond.initialized y.cls ∈ gT ∧ (y.cls ≠ "java/lang/invoke/MethodHandle" ∧ y.cls ≠ "java/lang/invoke/VarHandle" ∧ (parseMethodDescriptor y.desc).map (fun d => d.parameters.length) = some n) ∧
  rm.frames + 1 ≤ (kR k).frames ∧ 8 + (maxL + 11) + rm.locals ≤ (kR k).locals
theorem cb_B (C : kx_ok k) {idx n : Nat} (h : cb_ok k idx y bytes maxL ret rm n) : CallB (kR k) (kS k) (kA k) (kOwn k) idx y bytes maxL ret [Cond.code y bytes maxL ret] rm rm.cells rm.slots n := by
  obtain ⟨h1, h2, h3, h4, h5, h6⟩ := h
  exact callB_of n (kx_wd C) (fun w hw => by
    rw [List.mem_singleton.mp hw]
    exact ⟨h2, good_of_word (List.mem_filter.mp h2).2⟩) rfl rfl rfl (kx_wd C _ h3) (kx_wd C _ h1) h4 ⟨h5, h6⟩
theorem w_callV (C : kx_ok k) {idx n q0 ci N b : Nat} {T : u_T} {fs As : List Value} (cb : cb_ok k idx y bytes maxL ret rm n) (hi : Cond.instanceMethod y ∈ gT) (hse : Cond.selects y.cls y y ∈ gT) (hM : MB (kL k) (kS0 k) (kD k) y (.code y bytes maxL ret) rm (.ref b :: As) ws K)
    (he : ws[q0]? = some (b, .inr (ci, fs))) (hc : vwCl[ci]? = some (y.cls, T, N)) (hn : As.length = n) (hw : (st.map fun v => v.category).sum ≤ 8) (hf : ce + rm.cells ≤ (kR k).cells ∧ sl + rm.slots ≤ (kR k).slots) (d : decode (kCc k) pc = .ok (.invokevirtual idx, 3))
    (h1 : ∀ v ws', K (.inl v) ws' → WS k (pc + 3) lv (v.toList ++ st) ws' (ce + rm.cells) (sl + rm.slots)) (h2 : ∀ E ws', K (.inr E) ws' → WX k pc lv st ws' E (ce + rm.cells) (sl + rm.slots)) : WS k pc lv (As.reverse ++ .ref b :: st) ws ce sl := by
  intro H locs ls hP hD hS hl
  refine w_run (K := K) hl hS (vx_runV (C := y.cls) (As := As) (rest := st) ⟨C.1, C.2.1, C.2.2.1, C.2.2.2.1, kx_wd C⟩ hM ⟨cb_B C cb, kx_wd C _ hi, kx_wd C _ hse⟩ ⟨mb_blind, va_recv (kx_K C) hP hc he, fun U hU hW => ⟨rfl, kx_B C hP hD hS U hU hW⟩⟩ rfl hn hl.1 rfl ?_ d hf) h1 h2
  simpa using hw
theorem w_callS (C : kx_ok k) {idx n : Nat} {As : List Value} (cb : cb_ok k idx y bytes maxL ret rm n) (hi : Cond.static y ∈ gT) (hM : MB (kL k) (kS0 k) (kD k) y (.code y bytes maxL ret) rm As ws K)
    (hn : As.length = n) (hw : (st.map fun v => v.category).sum ≤ 8) (hf : ce + rm.cells ≤ (kR k).cells ∧ sl + rm.slots ≤ (kR k).slots) (d : decode (kCc k) pc = .ok (.invokestatic idx, 3))
    (h1 : ∀ v ws', K (.inl v) ws' → WS k (pc + 3) lv (v.toList ++ st) ws' (ce + rm.cells) (sl + rm.slots)) (h2 : ∀ E ws', K (.inr E) ws' → WX k pc lv st ws' E (ce + rm.cells) (sl + rm.slots)) : WS k pc lv (As.reverse ++ st) ws ce sl := by
  intro H locs ls hP hD hS hl
  refine w_run (K := K) hl hS (vx_runS (As := As) (rest := st) ⟨C.1, C.2.1, C.2.2.1, C.2.2.2.1, kx_wd C⟩ hM ⟨cb_B C cb, kx_wd C _ hi⟩ ⟨mb_blind, fun U hU hW => ⟨rfl, kx_B C hP hD hS U hU hW⟩⟩ rfl hn hl.1 rfl ?_ d hf) h1 h2
  simpa using hw
/-- a method that never throws -/
theorem mb_noX {l : Launch} {s0 : State} {D : va_G} {wd : Cond} {vals : List Value} (h : MB l s0 D y wd rm vals ws K) (hx : ∀ E ws', ¬ K (.inr E) ws') : Met l y [wd] rm (va_Pc vals (mb_B s0 D ws)) (mb_Q s0 D K) rm.cells rm.slots (mb_F s0) := by
  intro p e h1 h2 h3 s m args below hf ha hP hK
  obtain ⟨n, o, a1, a2, a3, a4⟩ := h p e h1 h2 h3 s m args below hf ha hP hK
  refine ⟨n, o, a1, a2, a3, ?_⟩
  rcases a4 with a4 | ⟨q, -, E, ce, L, ⟨ws', hk, -⟩, -⟩
  · exact a4
  · exact absurd hk (hx E ws')
/-- a call by Met, run -/
theorem w_runM {H : Heap} {locs : List Loc} {ls : Array Slot} {st0 rest : List Value} {mc ms : Nat} {a : Array Value} (hl : lv_has ls (kN k) lv) (hS : va_S (kF k) (kS k).heap H locs)
    (hr : va_Run (kP k) (kL k) (kE k) (kR k) (kS k) (kM k) (kA k) (kB k) (kMe k) (kC k) H locs ce sl mc ms (F0 (kM k) pc ls st0) rest (mb_Q (kS0 k) (kD k) K a) (mb_F (kS0 k)))
    (h1 : ∀ v ws', K (.inl v) ws' → WS k (pc + 3) lv (v.toList ++ rest) ws' (ce + mc) (sl + ms)) :
    kx_W k H locs ce sl (F0 (kM k) pc ls st0) := by
  intro T hT X
  obtain ⟨v, st₀, t, T', L, h0, X', hL, e1, e2, ⟨v', ws', hv, hK, hP', hD', hF⟩, stp⟩ := hr T hT X
  cases hv
  obtain ⟨-, -, k3⟩ := vx_keep (A0 := kF k) (A1 := kF k) h0 e1 hS (fun _ _ q => q) (fun _ q => q) hL hF
  obtain ⟨t2, a1, b1⟩ := h1 v ws' hK T'.heap (locs ++ L) ls (by rw [e1]; exact hP') hD' k3 hl T' rfl X'
  exact ⟨t2, stp t2 a1, b1⟩
theorem w_callI (C : kx_ok k) {idx n b : Nat} {As : List Value} (cb : cb_ok k idx y bytes maxL none rm n) (hy : y.name = "<init>") (hi : Cond.instanceMethod y ∈ gT) (hM : MB (kL k) (kS0 k) (kD k) y (.code y bytes maxL none) rm (.ref b :: As) ws K) (hx : ∀ E ws', ¬ K (.inr E) ws')
    (hn : As.length = n) (hw : (st.map fun v => v.category).sum ≤ 8) (hf : ce + rm.cells ≤ (kR k).cells ∧ sl + rm.slots ≤ (kR k).slots) (d : decode (kCc k) pc = .ok (.invokespecial idx, 3))
    (h1 : ∀ v ws', K (.inl v) ws' → WS k (pc + 3) lv (v.toList ++ st) ws' (ce + rm.cells) (sl + rm.slots)) : WS k pc lv (As.reverse ++ .ref b :: st) ws ce sl := by
  intro H locs ls hP hD hS hl
  refine w_runM (K := K) hl hS (va_runI (As := As) (rest := st) ⟨C.1, C.2.1, C.2.2.1, C.2.2.2.1, kx_wd C⟩ (mb_noX hM hx) ⟨cb_B C cb, hy, kx_wd C _ hi⟩ ⟨mb_blind, fun U hU hW => ⟨rfl, kx_B C hP hD hS U hU hW⟩⟩ rfl hn hl.1 rfl ?_ d hf) h1
  simpa using hw
/-- how an activation is to end: the ways K, room mc ms -/
def kx_end (k : kx_T) (K : mb_O → va_W → Prop) (mc ms : Nat) : Prop := kQ k = vx_MQ (kB k) (mb_Q (kS0 k) (kD k) K) (mb_X (kS0 k) (kD k) K) (kA k) (kS k) mc ms (mb_F (kS0 k))
theorem w_vret (C : kx_ok k) {mc ms : Nat} (q : kx_end k K mc ms) (hr : (kMe k).sig.returnType = none) (d : decode (kCc k) pc = .ok (.return_, 1)) (h1 : ce ≤ mc) (h2 : sl ≤ ms) (h : K (.inl none) ws) : WS k pc lv [] ws ce sl := by
  intro H locs ls hP hD hS hl
  show W _ _ _ _ _ _ _ _ _ _ _ _ _ _ (kQ k) _
  rw [q]
  refine vx_ret (W.widen h1 h2 (W.vret C.1 C.2.1 hr (fun t ht hW => ?_) (fun z hz => hS.2.2 z hz) d C.2.2.2.2.2.2.2.2.1))
  exact ⟨none, ws, rfl, h, by rw [ht]; exact hP, hD, hS.F ht⟩
theorem w_iret (C : kx_ok k) {mc ms : Nat} {x : Int32} {ty : FieldType} (q : kx_end k K mc ms) (hr : (kMe k).sig.returnType = some ty) (hn : narrow ty (.int x) = .int x) (d : decode (kCc k) pc = .ok (.ireturn, 1)) (h1 : ce ≤ mc) (h2 : sl ≤ ms) (h : K (.inl (some (.int x))) ws) : WS k pc lv [.int x] ws ce sl := by
  intro H locs ls hP hD hS hl
  show W _ _ _ _ _ _ _ _ _ _ _ _ _ _ (kQ k) _
  rw [q]
  refine vx_ret (W.widen h1 h2 (W.zret C.1 C.2.1 hr hn (fun t ht hW => ?_) (fun z hz => hS.2.2 z hz) d C.2.2.2.2.2.2.2.2.1))
  exact ⟨some (.int x), ws, rfl, h, by rw [ht]; exact hP, hD, hS.F ht⟩
theorem w_lret (C : kx_ok k) {mc ms : Nat} {x : Int64} (q : kx_end k K mc ms) (hr : (kMe k).sig.returnType = some .long) (d : decode (kCc k) pc = .ok (.lreturn, 1)) (h1 : ce ≤ mc) (h2 : sl ≤ ms) (h : K (.inl (some (.long x))) ws) : WS k pc lv [.long x] ws ce sl := by
  intro H locs ls hP hD hS hl
  show W _ _ _ _ _ _ _ _ _ _ _ _ _ _ (kQ k) _
  rw [q]
  refine vx_ret (W.widen h1 h2 (W.lret C.1 C.2.1 hr (fun t ht hW => ?_) (fun z hz => hS.2.2 z hz) d C.2.2.2.2.2.2.2.2.1))
  exact ⟨some (.long x), ws, rfl, h, by rw [ht]; exact hP, hD, hS.F ht⟩
/-- an exception that no row of the table takes goes on to the caller -/
theorem x_out (C : kx_ok k) {mc ms : Nat} {E : String} (q : kx_end k K mc ms) (hout : ∀ x ∈ (kC k).exceptionTable.toList, covers x pc = false) (h1 : ce ≤ mc) (h2 : sl ≤ ms) (h : K (.inr E) ws) : WX k pc lv st ws E ce sl := by
  intro H locs ls a cell hP hD hS hl hc hv hcl
  show vx_W _ _ _ _ _ _ _ _ _ _ _ _ _ _ (kQ k) _ _
  rw [q]
  exact vx_out hout C.2.2.2.2.2.2.2.2.1 hc hv hcl (fun t ht _ => ⟨ws, h, by rw [ht]; exact hP, hD, hS.F ht⟩) (fun z hz => hS.2.2 z hz) h1 h2
end L3
end
section
/-! Throws of exceptions whose constructor links its super's at any place of its pool: th_ctor follows the library's ctorThrowS, with chainSX for chainS; vx_throwX, vx_throwXW follow the printed vx_throwS, vx_throwSW -/
def vx_atX (own : String) (ic : Nat) (X : String) (ix : Nat) (rx : ByteArray) (names : List String) : List Cond := (Bundle.ownAtomsX own ic X ix rx names).filter vx_no
section THX
variable {p : Program} {l : Launch} {e : Env} {R : Room} {s : State} {m₀ : MethodId} {args : Array Value} {below : List Frame} {meth : Method} {c : Code} {W : State} {locs : List Loc} {cells slots : Nat}
set_option maxHeartbeats 1000000 in
theorem th_ctor (X : Stand p l e R s m₀ args below meth c W locs cells slots) (hexec : p.tables.exec = Jvm.exec) (htr : e.platform.stackTraces = false) {own cls : String} {names : List String} {ic ix : Nat} {rx : ByteArray}
    (x0 : decode rx 0 = .ok (.aload_n 0, 1)) (x1 : decode rx 1 = .ok (.aload_n 1, 1)) (x2 : decode rx 2 = .ok (.invokespecial ix, 3)) (x5 : decode rx 5 = .ok (.return_, 1))
    (hown : s.vm.findClass own = some m₀.cls) (hcls : Bundle.fit cls = true) (hnames : ∀ n ∈ names, Bundle.fit n = true)
    (h : ∀ a ∈ Bundle.ownAtomsX own ic cls ix rx names, a.before args s = true)
    (hlocs : ∀ x ∈ locs, ∀ cell, s.heap[x.base]? = some cell → cell.vm.isStatics = false)
    {a : Addr} {cX : ClassId} {kX : Class} (hfoundX : s.vm.findClass cls = some cX) (hkX : s.vm.classes[cX]? = some kX) (hcell : W.heap[a]? = some (freshCell cX kX)) (hnew : s.heap.size ≤ a)
    {msg : Value} (hmsg : msg.isRef = true)
    {g : JFrame} (hg : g.method = m₀) (hsize : g.locals.size = c.maxLocals) (hlocked : g.locked = none) (hentered : g.entered = []) {rest : List Value} (hstack : g.stack = msg :: .ref a :: .ref a :: rest)
    (hd6 : decode c.code g.pc = .ok (.invokespecial ic, 3)) (hd9 : decode c.code (g.pc + 3) = .ok (.athrow, 1)) (hout : ∀ x ∈ c.exceptionTable.toList, covers x (g.pc + 3) = false)
    (hRframes : names.length + 3 < R.frames) (hRlocals : 2 * g.monitorRoom + ((Value.ref a :: rest).map fun v => v.category).sum + (13 * (names.length + 1) + 42) ≤ R.locals) (hlocks : meth.locks = false) :
    ∃ U : State, Steps p.tables e below (W.setTop g) U ∧ U.status = .running ∧ Ended U below (.threw a) ∧ s.WarmedH U.vm ∧ s.sameButNew ({ U with vm := s.vm } : State) locs cells slots ∧
      ∃ ce, U.heap[a]? = some ce ∧ ce.vm = .none ∧ s.vm.findClass cls = some ce.cls := by
  have howns : e.platform.frameOwnsMonitors = true := by rw [X.admits.platform]
  have hfin : e.platform.finalization = false := by rw [X.admits.platform]
  have hpl : e.platform.magicAccessors = ({} : Platform).magicAccessors := by rw [X.admits.platform]
  have a' : ∀ x, x ∈ Bundle.ownAtomsX own ic cls ix rx names → x.holds args s none s [] = true := fun x hx => h x hx
  obtain ⟨T, Z0, L, -, Y⟩ := ThrowableC.of_atoms (args := args) howns hfin hpl (fun x hx => h x (by simp [Bundle.ownAtomsX, hx]))
  obtain ⟨Z, M, LZ, LM, hnZ⟩ := Init0T.ofS_atoms (args := args) hpl L Y (fun x hx => h x (by simp [Bundle.ownAtomsX, hx]))
  obtain ⟨P1, Ps, hlen, L1, hL, hP1m, hlink1, hlink⟩ := Bundle.chainSX (args := args) hpl hnZ x0 x1 x2 x5 names cls hcls hnames (fun x hx => h x (by simp [Bundle.ownAtomsX, hx]))
  have hfound : s.vm.findClass cls = some P1.m.cls := findClass_of_methodNamed hP1m
  cases Option.some.inj (hfoundX.symm.trans hfound)
  obtain ⟨c1, kX', hc1, hk, hord, -, -, hn6⟩ := Cond.instantiable_spec (a' (.instantiable cls 6) (by simp [Bundle.ownAtomsX]))
  cases Option.some.inj (hc1.symm.trans hfound)
  cases Option.some.inj (hkX.symm.trans hk)
  have hsel0 : selectMethod e.platform s.vm P1.m.cls T.fill0 = .method T.fill0 := by
    obtain ⟨c2, r2, m2, q1, q2, q3, q4, -⟩ := Cond.selects_spec (a' (.selects cls Bundle.tFill0 Bundle.tFill0) (by simp [Bundle.ownAtomsX]))
    cases Option.some.inj (q1.symm.trans hfound)
    cases Option.some.inj (q2.symm.trans (State.methodFound?_of_named Y.fill0 (by decide)))
    cases Option.some.inj (q3.symm.trans Y.fill0)
    rw [Launch.admits_selectMethod X.admits]; exact q4
  have hselF : selectMethod e.platform s.vm P1.m.cls T.fill = .method T.fill := by
    obtain ⟨c2, r2, m2, q1, q2, q3, q4, -⟩ := Cond.selects_spec (a' (.selects cls Bundle.tFill Bundle.tFill) (by simp [Bundle.ownAtomsX]))
    cases Option.some.inj (q1.symm.trans hfound)
    cases Option.some.inj (q2.symm.trans (State.methodFound?_of_named Y.fill (by decide)))
    cases Option.some.inj (q3.symm.trans Y.fill)
    rw [Launch.admits_selectMethod X.admits]; exact q4
  obtain ⟨cellS0, hcS0, hiss⟩ := Y.statics
  obtain ⟨u0, hu0⟩ := Cond.staticRefV Y.unassigned L.unassignedStatic L.statics hcS0 hiss (a' (.isRef (.static Bundle.tN "UNASSIGNED_STACK" Bundle.steD)) (by simp [Bundle.ownAtomsX]))
  obtain ⟨sen, hsen⟩ := Cond.staticRefV Y.sentinel L.sentinelStatic L.statics hcS0 hiss (a' (.isRef (.static Bundle.tN "SUPPRESSED_SENTINEL" Bundle.listD)) (by simp [Bundle.ownAtomsX]))
  obtain ⟨ci198, i198, fB, hk198, hg198, ha198, hsB, -, hnB, htB, hffB⟩ := Cond.ownField (t := .object "java/lang/Object") Y.found L.cls (by decide +kernel) (a' (.fieldLink Bundle.tN 198 Bundle.tN "backtrace" "Ljava/lang/Object;") (by simp [Bundle.ownAtomsX])) (a' (.lays Bundle.tN Bundle.tN "backtrace" "Ljava/lang/Object;") (by simp [Bundle.ownAtomsX])) e.platform hpl
  obtain ⟨cellS, hcS', heS, -, hkeep⟩ := X.same.2.2.2.2.2 T.aS cellS0 hcS0
  have hcellS : W.heap[T.aS]? = some cellS := hcS'
  have hout' : ∀ i, (⟨T.aS, i⟩ : Loc) ∉ locs := fun i hmem => by
    have := hlocs _ hmem cellS0 hcS0
    rw [hiss] at this; cases this
  have hknownS : cellS.vm ≠ .unknown := by
    rw [heS]; intro hu
    rw [show cellS0.vm = .unknown from hu] at hiss
    cases hiss
  have hneS : T.aS ≠ a := Nat.ne_of_lt (Nat.lt_of_lt_of_le (Array.getElem?_eq_some_iff.mp hcS0).1 hnew)
  obtain ⟨iM, hffM⟩ := Y.msg
  obtain ⟨tyC, dC, hdC, hdnC⟩ := Cond.laysAt hfound hk Y.cause (a' (.lays cls Bundle.tN "cause" "Ljava/lang/Throwable;") (by simp [Bundle.ownAtomsX]))
  obtain ⟨tyS, dS, hdS, hdnS⟩ := Cond.laysAt hfound hk Y.stack (a' (.lays cls Bundle.tN "stackTrace" Bundle.steD) (by simp [Bundle.ownAtomsX]))
  obtain ⟨tyP, dP, hdP, hdnP⟩ := Cond.laysAt hfound hk Y.supp (a' (.lays cls Bundle.tN "suppressedExceptions" Bundle.listD) (by simp [Bundle.ownAtomsX]))
  obtain ⟨tyM, dM, hdM, hdnM⟩ := Cond.laysAt hfound hk hffM (a' (.lays cls Bundle.tN "detailMessage" "Ljava/lang/String;") (by simp [Bundle.ownAtomsX]))
  obtain ⟨tyB, dB, hdB, hdnB⟩ := Cond.laysAt hfound hk hffB (a' (.lays cls Bundle.tN "backtrace" "Ljava/lang/Object;") (by simp [Bundle.ownAtomsX]))
  have bC := Cond.laysApart hdB hdC hdnB hdnC (by rw [hnB, Y.causeName]; decide)
  have bS := Cond.laysApart hdB hdS hdnB hdnS (by rw [hnB, Y.stackName]; decide)
  have bP := Cond.laysApart hdB hdP hdnB hdnP (by rw [hnB, Y.suppName]; decide)
  have hskip : SkipFacts T e.platform s (fun u => u) u0 ((preparedCellV T.toThrowableT (freshCell P1.m.cls kX) a u0 sen).withEntry W.cur) :=
    ⟨{ ci198 := ci198, i198 := i198, fBack := fB }, ⟨hk198, hg198, ha198, hsB⟩, by
      have := fresh_default (c := P1.m.cls) tyB
      rw [htB] at this
      simpa [preparedCellV, Cell.setSlot, Cell.withEntry, Array.getElem?_setIfInBounds, bC, bS, bP, bC.symm, bS.symm, bP.symm, defaultValue] using this, fun _ _ => rfl⟩
  obtain ⟨tm, methC, cdC, kC, vm₁, hnC, -, -, -, -, -, -, -, hW₁, st1⟩ := Steps.initColdS (tb := p.tables) (e := e) (below := below) (s := s) (U := W) X.here hexec X.warmed hpl hown (t := Bundle.initS cls) rfl rfl (Bundle.fit_spec hcls).2
    (a' (.methodLink own ic (Bundle.initS cls)) (by simp [Bundle.ownAtomsX])) (h (.instanceMethod (Bundle.initS cls)) (by cases names <;> simp [Bundle.ownAtomsX, Bundle.chainSAtomsX, Bundle.passSAtoms])) (bytes := rx) (maxL := 2) (h (.code (Bundle.initS cls) rx 2 none) (by cases names <;> simp [Bundle.ownAtomsX, Bundle.chainSAtomsX, Bundle.passSAtoms]))
    (f := g) hg (a := a) (msg := msg) (rest := .ref a :: rest) hstack hd6
  cases Option.some.inj (hnC.symm.trans hP1m)
  have X₁ := X.noted hW₁
  obtain ⟨vm₂, X₂, st2⟩ := X₁.ctorMessageOffV hexec (g := { g with stack := .ref a :: rest }) hg hsize T L Z LZ M LM (P1 :: Ps)
    (fun P hP => by rcases List.mem_cons.mp hP with rfl | hP; exact L1; exact hL P hP) ⟨hlink1, hlink⟩ (u0 := u0) (sen := sen) (self := a) hmsg (cell := freshCell P1.m.cls kX) (cellS := cellS)
    hcell (fun _ => by simp) (by simp) rfl rfl hsel0 hselF hcellS hneS hknownS (by rw [hkeep _ (hout' _)]; exact hu0) (by rw [hkeep _ (hout' _)]; exact hsen)
    (Takes.of_laid hk hord tyC (by rw [Y.causeType]; rfl)) (Takes.of_laid hk hord tyS (by rw [Y.stackType]; exact fits_refV_array _ u0)) (Takes.of_laid hk hord tyP (by rw [Y.suppType]; exact fits_refV_object _ sen))
    (Takes.of_laid hk hord tyM (by rw [Y.msgType]; exact fits_refV_object _ ⟨msg, hmsg⟩)) Y.objLocals hskip htr [] hd6
    (by simp only [List.length_cons, hlen]; omega) (by simp only [List.length_cons, hlen]; exact hRlocals)
  obtain ⟨hwalk, hrun, hended, hWU, hsame⟩ := X₂.athrowLeaves hexec (g := { g with stack := .ref a :: rest, pc := g.pc + 3 }) hg hlocked hentered hout (a := a) (rest := rest) rfl hd9
  have hlt : a < ((W.setVm vm₁).setVm vm₂).heap.size := (Array.getElem?_eq_some_iff.mp hcell).1
  have hU := heapAt_setCell_self (s := (W.setVm vm₁).setVm vm₂) (plainBareV T.toThrowableT (freshCell P1.m.cls kX) a u0 sen msg) hlt
  refine ⟨_, st1 _ (fun acts => ?_), hrun, hended, hWU, hsame.weaken (fun y hy hlt' => ?_) (Nat.le_refl _) (Nat.le_refl _), _, hU, rfl, hfound⟩
  · rw [doInvoke_state]
    exact st2 _ hwalk
  · rcases List.mem_append.mp hy with h1 | h1
    · exact h1
    · exfalso
      have hb : y.base = a := by
        simp only [List.mem_cons, List.not_mem_nil, or_false] at h1
        rcases h1 with rfl | rfl | rfl | rfl | rfl <;> rfl
      rw [hb] at hlt'
      exact Nat.not_lt.mpr hnew hlt'
end THX
section THY
variable {p : Program} {l : Launch} {e : Env} {R : Room} {s : State} {m : MethodId} {args : Array Value} {below : List Frame} {meth : Method} {c : Code} {H : Heap} {locs : List Loc} {cells slots : Nat} {Q : State → Prop}
variable {mc ms : Nat} {free : Addr → Prop} {A0 A1 : Nat → Prop} {H0 : Heap} {a : Array Value} {ls : Array Slot} {st0 rest : List Value}
variable {Qc : Array Value → State → Outcome → State → Prop} {XC : String → State → State → Prop}
theorem vx_throwX {cc : ByteArray} {pc : Nat} (hexec : p.tables.exec = Jvm.exec) (hb : c.code = cc) (hl : l.stackTraces = false) {own cls text : String} {names : List String} {ik is ic mc ms sa ix : Nat} {rx : ByteArray} {A : Nat → Prop}
    (x0 : decode rx 0 = .ok (.aload_n 0, 1)) (x1 : decode rx 1 = .ok (.aload_n 1, 1)) (x2 : decode rx 2 = .ok (.invokespecial ix, 3)) (x5 : decode rx 5 = .ok (.return_, 1))
    (hown : s.vm.findClass own = some m.cls) (hcls : Bundle.fit cls = true) (hnames : ∀ n ∈ names, Bundle.fit n = true)
    (hk : (Cond.classLink own ik cls).before args s = true) (hini : (Cond.initialized cls).before args s = true) (hstr : vk_R own is text sa s) (hat : ∀ w ∈ vx_atX own ic cls ix rx names, w.before args s = true)
    (hgood : ∀ w ∈ Cond.classLink own ik cls :: Cond.initialized cls :: vx_atX own ic cls ix rx names, vx_ot w = true)
    (hU : vx_Zq Bundle.tN "UNASSIGNED_STACK" Bundle.steD A s s.heap) (hN : vx_Zq Bundle.tN "SUPPRESSED_SENTINEL" Bundle.listD A s s.heap) (hS : va_S A s.heap H locs) (hsize : ls.size = c.maxLocals)
    (d0 : decode cc pc = .ok (.new ik, 3)) (d3 : decode cc (pc + 3) = .ok (.dup, 1)) (d4 : decode cc (pc + 4) = .ok (.ldc is, 2)) (d6 : decode cc (pc + 6) = .ok (.invokespecial ic, 3)) (d9 : decode cc (pc + 9) = .ok (.athrow, 1))
    (hout : ∀ x ∈ c.exceptionTable.toList, covers x (pc + 9) = false)
    (hRframes : names.length + 3 < R.frames) (hRlocals : (rest.map fun v => v.category).sum + (13 * (names.length + 1) + 43) ≤ R.locals) (hRcells : cells + 1 ≤ R.cells) (hRslots : slots + 6 ≤ R.slots) (hlocks : meth.locks = false)
    (hx : ∀ t : State, s.vm.Alike t.vm → H.size ≤ t.heap.size → (∀ q : Nat, q < H.size → t.heap[q]? = H[q]?) → XC cls s t)
    (hf : ∀ z ∈ locs, free z.base) (hc : cells + 1 ≤ mc) (hs : slots + 6 ≤ ms) :
    W p l e R s m args below meth c H locs cells slots (vx_MQ below Qc XC args s mc ms free) (F0 m pc ls rest) := by
  intro T hT X
  have htr : e.platform.stackTraces = false := (show e.platform.stackTraces = l.stackTraces by rw [X.admits.platform]).trans hl
  have Y := vx_rebase X (R' := { frames := R.frames, locals := R.locals, cells := 1, slots := 6 }) (Nat.le_refl _) (Nat.le_refl _) hRcells hRslots
  obtain ⟨s', hA⟩ : ∃ z, z = (T.setVm s.vm).setFrames (.invoking m args :: below) := ⟨_, rfl⟩
  rw [← hA] at Y
  have hvm : s'.vm = s.vm := by rw [hA]; rfl
  have hhp : s'.heap = H := by rw [hA]; exact hT
  have hW0 : s.WarmedH s'.vm := by rw [hvm]; exact State.WarmedH.refl s
  have hat' : ∀ w ∈ vx_atX own ic cls ix rx names, w.before args s' = true := fun w hw => vx_ot_at hW0 hvm.symm (hgood w (List.mem_cons_of_mem _ (List.mem_cons_of_mem _ hw))) (hat w hw)
  have hk' : (Cond.classLink own ik cls).before args s' = true := vx_ot_at hW0 hvm.symm (hgood _ List.mem_cons_self) hk
  have hini' : (Cond.initialized cls).before args s' = true := vx_ot_at hW0 hvm.symm (hgood _ (List.mem_cons_of_mem _ List.mem_cons_self)) hini
  have hU' : vx_Zq Bundle.tN "UNASSIGNED_STACK" Bundle.steD A s' s'.heap := by rw [hhp]; exact vx_Zq.moved hW0.alike (hU.kept hS.2.1)
  have hN' : vx_Zq Bundle.tN "SUPPRESSED_SENTINEL" Bundle.listD A s' s'.heap := by rw [hhp]; exact vx_Zq.moved hW0.alike (hN.kept hS.2.1)
  have h : ∀ w ∈ Bundle.ownAtomsX own ic cls ix rx names, w.before args s' = true := vx_own hat' (vx_isRefq hU'.1) (vx_isRefq hN'.1) hU'.2.word hN'.2.word
  have hown' : s'.vm.findClass own = some m.cls := by rw [hvm]; exact hown
  have hins : (Cond.instantiable cls 6).before args s' = true := h _ (by simp [Bundle.ownAtomsX])
  obtain ⟨vm₁, cX, kX, hfX, hkX, -, -, X₁, st1⟩ := Y.newCold hexec (own := own) (C := cls) (index := ik) (n := 6) hown' hk' hins hini'
    (g := F0 m pc ls rest) rfl (by rw [hb]; exact d0) (Nat.le_refl _) (Nat.le_refl _)
  generalize hT1 : (T.setVm vm₁).pushCell { cls := cX, slots := kX.instanceTypes.map defaultValue, vm := .none } = T1 at X₁ st1
  have hcat : (Value.ref T.heap.size).category = 1 := rfl
  have hcellA : T1.heap[T.heap.size]? = some (freshCell cX kX) := by rw [← hT1]; exact State.heap_pushCell_size _ _
  have d3' : decode c.code (pc + 3) = .ok (.dup, 1) := by rw [hb]; exact d3
  have d4' : decode c.code (pc + 4) = .ok (.ldc is, 2) := by rw [hb]; exact d4
  have hstr' : vk_R own is text sa s' := vk_R.warm hW0 hstr
  obtain ⟨U, hsteps, hrun, hend, hW, hsame, ce, hce, hOv, hOc⟩ := th_ctor X₁ hexec htr x0 x1 x2 x5 (own := own) (cls := cls) (names := names) (ic := ic) hown' hcls hnames h (fun x hx => nomatch hx) hfX hkX hcellA (by rw [hhp, hT]; exact Nat.le_refl _) (msg := .ref sa) rfl
    (g := { method := m, pc := pc + 6, locals := ls, stack := .ref sa :: .ref T.heap.size :: .ref T.heap.size :: rest, locked := none }) rfl hsize rfl rfl (rest := rest) rfl
    (by rw [hb]; exact d6) (by rw [hb]; exact d9) hout hRframes (by simp only [List.map_cons, List.sum_cons, hcat]; omega) hlocks
  obtain ⟨f1, f2⟩ := vx_frame hsame
  rw [hhp] at f1 f2
  have hWs : s.WarmedH U.vm := State.WarmedH.trans hW0 hW
  have hcl : s.vm.findClass cls = some ce.cls := by
    have h9 := hOc
    rw [hvm] at h9
    exact h9
  have hall : s.sameButNew ({ U with vm := s.vm } : State) locs mc ms := by
    subst hA
    obtain ⟨e1, e2⟩ := hsame
    rw [State.setFrames_setFrames] at e1
    have h2 : (T.setVm s.vm).sameButNew ({ U with vm := s.vm } : State) [] (0 + 1) (0 + 6) := ⟨e1, e2⟩
    have h3 := X.same.trans h2
    rw [List.append_nil] at h3
    exact h3.mono hc hs
  refine ⟨U, ?_, .threw T.heap.size, hrun, hend, Or.inr ⟨T.heap.size, rfl, cls, ce, locs, hx U hWs.alike f1 (fun q hq => f2 q hq (fun z hz => nomatch hz)), hce, hOv, hcl, hWs, hall, hf⟩⟩
  refine st1 _ ?_
  show Steps p.tables e below (T1.setTop { method := m, pc := pc + 3, locals := ls, stack := .ref T.heap.size :: rest, locked := none }) _
  jvm_step X₁.here [X₁.here.top, hexec, d3', Value.category]
  exact X₁.ldcString hexec (own := own) (text := text) (index := is) (a := sa) hown' hstr'.1 hstr'.2
    (g := { method := m, pc := pc + 4, locals := ls, stack := .ref T.heap.size :: .ref T.heap.size :: rest, locked := none }) rfl d4' _ hsteps
/-- the text by a wide index -/
theorem vx_throwXW {cc : ByteArray} {pc : Nat} (hexec : p.tables.exec = Jvm.exec) (hb : c.code = cc) (hl : l.stackTraces = false) {own cls text : String} {names : List String} {ik is ic mc ms sa ix : Nat} {rx : ByteArray} {A : Nat → Prop}
    (x0 : decode rx 0 = .ok (.aload_n 0, 1)) (x1 : decode rx 1 = .ok (.aload_n 1, 1)) (x2 : decode rx 2 = .ok (.invokespecial ix, 3)) (x5 : decode rx 5 = .ok (.return_, 1))
    (hown : s.vm.findClass own = some m.cls) (hcls : Bundle.fit cls = true) (hnames : ∀ n ∈ names, Bundle.fit n = true)
    (hk : (Cond.classLink own ik cls).before args s = true) (hini : (Cond.initialized cls).before args s = true) (hstr : vk_R own is text sa s) (hat : ∀ w ∈ vx_atX own ic cls ix rx names, w.before args s = true)
    (hgood : ∀ w ∈ Cond.classLink own ik cls :: Cond.initialized cls :: vx_atX own ic cls ix rx names, vx_ot w = true)
    (hU : vx_Zq Bundle.tN "UNASSIGNED_STACK" Bundle.steD A s s.heap) (hN : vx_Zq Bundle.tN "SUPPRESSED_SENTINEL" Bundle.listD A s s.heap) (hS : va_S A s.heap H locs) (hsize : ls.size = c.maxLocals)
    (d0 : decode cc pc = .ok (.new ik, 3)) (d3 : decode cc (pc + 3) = .ok (.dup, 1)) (d4 : decode cc (pc + 4) = .ok (.ldc_w is, 3)) (d7 : decode cc (pc + 7) = .ok (.invokespecial ic, 3)) (d10 : decode cc (pc + 10) = .ok (.athrow, 1))
    (hout : ∀ x ∈ c.exceptionTable.toList, covers x (pc + 10) = false)
    (hRframes : names.length + 3 < R.frames) (hRlocals : (rest.map fun v => v.category).sum + (13 * (names.length + 1) + 43) ≤ R.locals) (hRcells : cells + 1 ≤ R.cells) (hRslots : slots + 6 ≤ R.slots) (hlocks : meth.locks = false)
    (hx : ∀ t : State, s.vm.Alike t.vm → H.size ≤ t.heap.size → (∀ q : Nat, q < H.size → t.heap[q]? = H[q]?) → XC cls s t)
    (hf : ∀ z ∈ locs, free z.base) (hc : cells + 1 ≤ mc) (hs : slots + 6 ≤ ms) :
    W p l e R s m args below meth c H locs cells slots (vx_MQ below Qc XC args s mc ms free) (F0 m pc ls rest) := by
  intro T hT X
  have htr : e.platform.stackTraces = false := (show e.platform.stackTraces = l.stackTraces by rw [X.admits.platform]).trans hl
  have Y := vx_rebase X (R' := { frames := R.frames, locals := R.locals, cells := 1, slots := 6 }) (Nat.le_refl _) (Nat.le_refl _) hRcells hRslots
  obtain ⟨s', hA⟩ : ∃ z, z = (T.setVm s.vm).setFrames (.invoking m args :: below) := ⟨_, rfl⟩
  rw [← hA] at Y
  have hvm : s'.vm = s.vm := by rw [hA]; rfl
  have hhp : s'.heap = H := by rw [hA]; exact hT
  have hW0 : s.WarmedH s'.vm := by rw [hvm]; exact State.WarmedH.refl s
  have hat' : ∀ w ∈ vx_atX own ic cls ix rx names, w.before args s' = true := fun w hw => vx_ot_at hW0 hvm.symm (hgood w (List.mem_cons_of_mem _ (List.mem_cons_of_mem _ hw))) (hat w hw)
  have hk' : (Cond.classLink own ik cls).before args s' = true := vx_ot_at hW0 hvm.symm (hgood _ List.mem_cons_self) hk
  have hini' : (Cond.initialized cls).before args s' = true := vx_ot_at hW0 hvm.symm (hgood _ (List.mem_cons_of_mem _ List.mem_cons_self)) hini
  have hU' : vx_Zq Bundle.tN "UNASSIGNED_STACK" Bundle.steD A s' s'.heap := by rw [hhp]; exact vx_Zq.moved hW0.alike (hU.kept hS.2.1)
  have hN' : vx_Zq Bundle.tN "SUPPRESSED_SENTINEL" Bundle.listD A s' s'.heap := by rw [hhp]; exact vx_Zq.moved hW0.alike (hN.kept hS.2.1)
  have h : ∀ w ∈ Bundle.ownAtomsX own ic cls ix rx names, w.before args s' = true := vx_own hat' (vx_isRefq hU'.1) (vx_isRefq hN'.1) hU'.2.word hN'.2.word
  have hown' : s'.vm.findClass own = some m.cls := by rw [hvm]; exact hown
  have hins : (Cond.instantiable cls 6).before args s' = true := h _ (by simp [Bundle.ownAtomsX])
  obtain ⟨vm₁, cX, kX, hfX, hkX, -, -, X₁, st1⟩ := Y.newCold hexec (own := own) (C := cls) (index := ik) (n := 6) hown' hk' hins hini'
    (g := F0 m pc ls rest) rfl (by rw [hb]; exact d0) (Nat.le_refl _) (Nat.le_refl _)
  generalize hT1 : (T.setVm vm₁).pushCell { cls := cX, slots := kX.instanceTypes.map defaultValue, vm := .none } = T1 at X₁ st1
  have hcat : (Value.ref T.heap.size).category = 1 := rfl
  have hcellA : T1.heap[T.heap.size]? = some (freshCell cX kX) := by rw [← hT1]; exact State.heap_pushCell_size _ _
  have d3' : decode c.code (pc + 3) = .ok (.dup, 1) := by rw [hb]; exact d3
  have d4' : decode c.code (pc + 4) = .ok (.ldc_w is, 3) := by rw [hb]; exact d4
  have hstr' : vk_R own is text sa s' := vk_R.warm hW0 hstr
  obtain ⟨U, hsteps, hrun, hend, hW, hsame, ce, hce, hOv, hOc⟩ := th_ctor X₁ hexec htr x0 x1 x2 x5 (own := own) (cls := cls) (names := names) (ic := ic) hown' hcls hnames h (fun x hx => nomatch hx) hfX hkX hcellA (by rw [hhp, hT]; exact Nat.le_refl _) (msg := .ref sa) rfl
    (g := { method := m, pc := pc + 7, locals := ls, stack := .ref sa :: .ref T.heap.size :: .ref T.heap.size :: rest, locked := none }) rfl hsize rfl rfl (rest := rest) rfl
    (by rw [hb]; exact d7) (by rw [hb]; exact d10) hout hRframes (by simp only [List.map_cons, List.sum_cons, hcat]; omega) hlocks
  obtain ⟨f1, f2⟩ := vx_frame hsame
  rw [hhp] at f1 f2
  have hWs : s.WarmedH U.vm := State.WarmedH.trans hW0 hW
  have hcl : s.vm.findClass cls = some ce.cls := by
    have h9 := hOc
    rw [hvm] at h9
    exact h9
  have hall : s.sameButNew ({ U with vm := s.vm } : State) locs mc ms := by
    subst hA
    obtain ⟨e1, e2⟩ := hsame
    rw [State.setFrames_setFrames] at e1
    have h2 : (T.setVm s.vm).sameButNew ({ U with vm := s.vm } : State) [] (0 + 1) (0 + 6) := ⟨e1, e2⟩
    have h3 := X.same.trans h2
    rw [List.append_nil] at h3
    exact h3.mono hc hs
  refine ⟨U, ?_, .threw T.heap.size, hrun, hend, Or.inr ⟨T.heap.size, rfl, cls, ce, locs, hx U hWs.alike f1 (fun q hq => f2 q hq (fun z hz => nomatch hz)), hce, hOv, hcl, hWs, hall, hf⟩⟩
  refine st1 _ ?_
  show Steps p.tables e below (T1.setTop { method := m, pc := pc + 3, locals := ls, stack := .ref T.heap.size :: rest, locked := none }) _
  jvm_step X₁.here [X₁.here.top, hexec, d3', Value.category]
  exact X₁.ldcStringW hexec (own := own) (text := text) (index := is) (a := sa) hown' hstr'.1 hstr'.2
    (g := { method := m, pc := pc + 4, locals := ls, stack := .ref T.heap.size :: .ref T.heap.size :: rest, locked := none }) rfl d4' _ hsteps
end THY
end
section
/-! Layer 1: what is known at the law's start; throws, catches; a method's whole run out of its body -/
abbrev ex_N : List String := ["java/lang/RuntimeException", "java/lang/Exception"]
/-- words of a throw that last by laws of their own -/
def exB (E : String) : List Cond := [.castable E E, .declares (Bundle.initS "java/lang/RuntimeException"), .declares (Bundle.initS "java/lang/Exception"), .declares (Bundle.initS Bundle.tN)]
/-- an exception class E, made by 'new ik', 'invokespecial ic' in the class SkyCuts; its constructor's bytes, and where it links its super's -/
def ex_ok (ik ic : Nat) (E : String) (ix : Nat) (rx : ByteArray) : Prop :=
  Bundle.fit E = true ∧ Cond.classLink RX11 ik E ∈ gT ∧ Cond.initialized E ∈ gT ∧ (∀ w ∈ (vx_atX RX11 ic E ix rx ex_N).filter goodWord, w ∈ gT) ∧ (∀ w ∈ (vx_atX RX11 ic E ix rx ex_N).filter (fun w => !goodWord w), w ∈ exB E) ∧ (∀ w ∈ exB E, w ∈ lw_tbl) ∧
  (∀ w ∈ Cond.classLink RX11 ik E :: Cond.initialized E :: vx_atX RX11 ic E ix rx ex_N, vx_ot w = true) ∧
  decode rx 0 = .ok (.aload_n 0, 1) ∧ decode rx 1 = .ok (.aload_n 1, 1) ∧ decode rx 2 = .ok (.invokespecial ix, 3) ∧ decode rx 5 = .ok (.return_, 1)
/-- the law's start -/
def z0_ok (l : Launch) (s0 : State) (a0 : Array Value) (D : va_G) (tys : List (ClassId × FieldType)) : Prop :=
  l.stackTraces = false ∧ (∀ w ∈ lw_tbl, w.before a0 s0 = true) ∧ va_K D vwCl tys s0 ∧ vx_Zq Bundle.tN "UNASSIGNED_STACK" Bundle.steD (mb_F s0) s0 s0.heap ∧ vx_Zq Bundle.tN "SUPPRESSED_SENTINEL" Bundle.listD (mb_F s0) s0 s0.heap ∧
  (∀ (i : Nat) (t : String), Cond.stringRef RX11 i t ∈ lw_tbl → ∃ sa, vk_R RX11 i t sa s0)
section L4
variable {k : kx_T} {pc : Nat} {lv : List (Nat × Value)} {st : List Value} {ws : va_W} {ce sl : Nat} {K : mb_O → va_W → Prop} {y : MethodName} {rm : Room} {bytes : ByteArray} {maxL : Nat} {ret : Option FieldType} {a0 : Array Value}
theorem kx_Zq (C : kx_ok k) {c n d : String} (h : vx_Zq c n d (mb_F (kS0 k)) (kS0 k) (kS0 k).heap) : vx_Zq c n d (kF k) (kS k) (kS k).heap :=
  (h.moved C.2.2.2.2.1.alike).kept (fun a ha _ => C.2.2.2.2.2.2.2.1 a ha)
theorem kx_cast (C : kx_ok k) (Z : z0_ok (kL k) (kS0 k) a0 (kD k) (kTy k)) {E F : String} (h : Cond.castable E F ∈ lw_tbl) : (Cond.castable E F).before (kA k) (kS k) = true :=
  va_Nw.use rfl (va_Nw.warmC C.2.2.2.2.1 (va_Nw.of rfl (Z.2.1 _ h)))
theorem kx_exB (C : kx_ok k) (Z : z0_ok (kL k) (kS0 k) a0 (kD k) (kTy k)) {E : String} (h : ∀ w ∈ exB E, w ∈ lw_tbl) : ∀ w ∈ exB E, w.before (kA k) (kS k) = true := by
  have dc : ∀ {y : MethodName}, Cond.declares y ∈ lw_tbl → (Cond.declares y).before (kA k) (kS k) = true := fun hy => va_Nw.use rfl (va_Nw.warmD C.2.2.2.2.1 (va_Nw.of rfl (Z.2.1 _ hy)))
  intro w hw
  have hm := h w hw
  simp only [exB, List.mem_cons, List.not_mem_nil, or_false] at hw
  rcases hw with e | e | e | e
  · subst e; exact kx_cast C Z hm
  · subst e; exact dc hm
  · subst e; exact dc hm
  · subst e; exact dc hm
theorem w_throw (C : kx_ok k) (Z : z0_ok (kL k) (kS0 k) a0 (kD k) (kTy k)) {ik ic is mc ms ix : Nat} {rx : ByteArray} {E text : String} (hE : ex_ok ik ic E ix rx) (ho : kOwn k = RX11) (hs : Cond.stringRef RX11 is text ∈ lw_tbl) (q : kx_end k K mc ms) (hout : ∀ x ∈ (kC k).exceptionTable.toList, covers x (pc + 9) = false)
    (d0 : decode (kCc k) pc = .ok (.new ik, 3)) (d3 : decode (kCc k) (pc + 3) = .ok (.dup, 1)) (d4 : decode (kCc k) (pc + 4) = .ok (.ldc is, 2)) (d6 : decode (kCc k) (pc + 6) = .ok (.invokespecial ic, 3)) (d9 : decode (kCc k) (pc + 9) = .ok (.athrow, 1))
    (r1 : 5 < (kR k).frames) (r2 : (st.map fun v => v.category).sum + 82 ≤ (kR k).locals) (r3 : ce + 1 ≤ (kR k).cells) (r4 : sl + 6 ≤ (kR k).slots) (r5 : ce + 1 ≤ mc) (r6 : sl + 6 ≤ ms) (h : K (.inr E) ws) : WS k pc lv st ws ce sl := by
  intro H locs ls hP hD hS hl
  obtain ⟨e1, e2, e3, e4, e5, e6, e7, x0, x1, x2, x5⟩ := hE
  obtain ⟨sa, hsa⟩ := Z.2.2.2.2.2 is text hs
  have hown : (kS k).vm.findClass RX11 = some (kM k).cls := by rw [← ho]; exact C.2.2.2.1
  have hat : ∀ w ∈ vx_atX RX11 ic E ix rx ex_N, w.before (kA k) (kS k) = true := vx_hat (fun w hw => kx_wd C w (e4 w hw)) e5 (kx_exB C Z e6)
  show W _ _ _ _ _ _ _ _ _ _ _ _ _ _ (kQ k) _
  rw [q]
  refine vx_throwX (own := RX11) (cls := E) (text := text) (names := ex_N) (ik := ik) (is := is) (ic := ic) (sa := sa) (A := kF k) C.1 C.2.1 Z.1 x0 x1 x2 x5 hown e1 (by decide +kernel) (kx_wd C _ e2) (kx_wd C _ e3) (hsa.warm C.2.2.2.2.1) hat e7 (kx_Zq C Z.2.2.2.1) (kx_Zq C Z.2.2.2.2.1) hS (hl.1.trans C.2.2.1.symm) d0 d3 d4 d6 d9 hout r1 r2 r3 r4 C.2.2.2.2.2.2.2.2.1 (fun t hvm hz hq => ?_) (fun z hz => hS.2.2 z hz) r5 r6
  refine ⟨ws, h, hP.kept (fun j x hx => hq x.1 ((hP j x hx).lt)), hD, Nat.le_trans hS.1 hz, fun a ha hn => ?_⟩
  rw [hq a (Nat.lt_of_lt_of_le ha hS.1)]
  exact hS.2.1 a ha hn
theorem w_throwW (C : kx_ok k) (Z : z0_ok (kL k) (kS0 k) a0 (kD k) (kTy k)) {ik ic is mc ms ix : Nat} {rx : ByteArray} {E text : String} (hE : ex_ok ik ic E ix rx) (ho : kOwn k = RX11) (hs : Cond.stringRef RX11 is text ∈ lw_tbl) (q : kx_end k K mc ms) (hout : ∀ x ∈ (kC k).exceptionTable.toList, covers x (pc + 10) = false)
    (d0 : decode (kCc k) pc = .ok (.new ik, 3)) (d3 : decode (kCc k) (pc + 3) = .ok (.dup, 1)) (d4 : decode (kCc k) (pc + 4) = .ok (.ldc_w is, 3)) (d6 : decode (kCc k) (pc + 7) = .ok (.invokespecial ic, 3)) (d9 : decode (kCc k) (pc + 10) = .ok (.athrow, 1))
    (r1 : 5 < (kR k).frames) (r2 : (st.map fun v => v.category).sum + 82 ≤ (kR k).locals) (r3 : ce + 1 ≤ (kR k).cells) (r4 : sl + 6 ≤ (kR k).slots) (r5 : ce + 1 ≤ mc) (r6 : sl + 6 ≤ ms) (h : K (.inr E) ws) : WS k pc lv st ws ce sl := by
  intro H locs ls hP hD hS hl
  obtain ⟨e1, e2, e3, e4, e5, e6, e7, x0, x1, x2, x5⟩ := hE
  obtain ⟨sa, hsa⟩ := Z.2.2.2.2.2 is text hs
  have hown : (kS k).vm.findClass RX11 = some (kM k).cls := by rw [← ho]; exact C.2.2.2.1
  have hat : ∀ w ∈ vx_atX RX11 ic E ix rx ex_N, w.before (kA k) (kS k) = true := vx_hat (fun w hw => kx_wd C w (e4 w hw)) e5 (kx_exB C Z e6)
  show W _ _ _ _ _ _ _ _ _ _ _ _ _ _ (kQ k) _
  rw [q]
  refine vx_throwXW (own := RX11) (cls := E) (text := text) (names := ex_N) (ik := ik) (is := is) (ic := ic) (sa := sa) (A := kF k) C.1 C.2.1 Z.1 x0 x1 x2 x5 hown e1 (by decide +kernel) (kx_wd C _ e2) (kx_wd C _ e3) (hsa.warm C.2.2.2.2.1) hat e7 (kx_Zq C Z.2.2.2.1) (kx_Zq C Z.2.2.2.2.1) hS (hl.1.trans C.2.2.1.symm) d0 d3 d4 d6 d9 hout r1 r2 r3 r4 C.2.2.2.2.2.2.2.2.1 (fun t hvm hz hq => ?_) (fun z hz => hS.2.2 z hz) r5 r6
  refine ⟨ws, h, hP.kept (fun j x hx => hq x.1 ((hP j x hx).lt)), hD, Nat.le_trans hS.1 hz, fun a ha hn => ?_⟩
  rw [hq a (Nat.lt_of_lt_of_le ha hS.1)]
  exact hS.2.1 a ha hn
/-- caught by a row of the method's own table -/
theorem x_catch (C : kx_ok k) (Z : z0_ok (kL k) (kS0 k) a0 (kD k) (kTy k)) {E name : String} (pre : List ExceptionTableEntry) (x : ExceptionTableEntry) (suf : List ExceptionTableEntry) (hsplit : (kC k).exceptionTable.toList = pre ++ x :: suf)
    (hpass : ∀ z ∈ pre, covers z pc = false ∨ (z.catchType ≠ 0 ∧ ∃ nm : String, Cond.classLink (kOwn k) z.catchType nm ∈ gT ∧ va_Nc E nm (kS k))) (hx : covers x pc = true) (h0 : x.catchType ≠ 0)
    (hlink : Cond.classLink (kOwn k) x.catchType name ∈ gT) (hcast : Cond.castable E name ∈ lw_tbl) (h : ∀ q : Nat, WS k x.handlerPc lv [.ref q] ws ce sl) : WX k pc lv st ws E ce sl := by
  intro H locs ls q cell hP hD hS hl hc hv hcl
  exact vx_catch C.2.2.2.1 pre x suf hsplit (fun z hz => (hpass z hz).imp id (fun ⟨a, nm, b, c⟩ => ⟨a, nm, kx_wd C _ b, c⟩)) hx h0 (kx_wd C _ hlink) (kx_cast C Z hcast) hc hv hcl (h q H locs ls hP hD hS hl)
theorem w_callIN (C : kx_ok k) (Z : z0_ok (kL k) (kS0 k) a0 (kD k) (kTy k)) {idx n b : Nat} {host : String} {As : List Value} (hlk : Cond.methodLinkNest (kOwn k) idx y host ∈ lw_tbl) (hcd : Cond.code y bytes maxL none ∈ gT) (hin : Cond.initialized y.cls ∈ gT) (hd : y.cls ≠ "java/lang/invoke/MethodHandle" ∧ y.cls ≠ "java/lang/invoke/VarHandle" ∧ (parseMethodDescriptor y.desc).map (fun d => d.parameters.length) = some n)
    (hR : rm.frames + 1 ≤ (kR k).frames ∧ 8 + (maxL + 11) + rm.locals ≤ (kR k).locals) (hy : y.name = "<init>") (hi : Cond.instanceMethod y ∈ gT) (hM : MB (kL k) (kS0 k) (kD k) y (.code y bytes maxL none) rm (.ref b :: As) ws K) (hx : ∀ E ws', ¬ K (.inr E) ws')
    (hn : As.length = n) (hw : (st.map fun v => v.category).sum ≤ 8) (hf : ce + rm.cells ≤ (kR k).cells ∧ sl + rm.slots ≤ (kR k).slots) (d : decode (kCc k) pc = .ok (.invokespecial idx, 3))
    (h1 : ∀ v ws', K (.inl v) ws' → WS k (pc + 3) lv (v.toList ++ st) ws' (ce + rm.cells) (sl + rm.slots)) : WS k pc lv (As.reverse ++ .ref b :: st) ws ce sl := by
  intro H locs ls hP hD hS hl
  have hl0 : va_Nw (.methodLinkNest (kOwn k) idx y host) (kS k) := va_Nw.warmM C.2.2.2.2.1 (va_Nw.of rfl (Z.2.1 _ hlk))
  refine w_runM (K := K) hl hS (va_runIN (As := As) (rest := st) ⟨C.1, C.2.1, C.2.2.1, C.2.2.2.1, kx_wd C⟩ (mb_noX hM hx) ⟨va_cnB (host := host) n (kx_wd C) (fun w hw => by
    rw [List.mem_singleton.mp hw]
    exact ⟨hcd, good_of_word (List.mem_filter.mp hcd).2⟩) rfl rfl rfl hl0 (kx_wd C _ hin) hd hR, hy, kx_wd C _ hi⟩ ⟨mb_blind, fun U hU hW => ⟨rfl, kx_B C hP hD hS U hU hW⟩⟩ rfl hn hl.1 rfl ?_ d hf) h1
  simpa using hw
/-- a method's run out of the walk of its body -/
theorem mb_of {l : Launch} {s0 : State} {D : va_G} {tys : List (ClassId × FieldType)} {vals : List Value} (Z : z0_ok l s0 a0 D tys) (hy : plainName y.cls = true) (hn : (lg_sl vals).length ≤ maxL)
    (body : ∀ k : kx_T, kx_ok k → kL k = l → kR k = rm → kS0 k = s0 → kD k = D → kTy k = tys → kOwn k = y.cls → kCc k = bytes → kN k = maxL → (kMe k).sig.returnType = ret → (kMe k).name = y.name → (∀ x ∈ (kC k).exceptionTable.toList, False) → kx_end k K rm.cells rm.slots → WS k 0 (lv_args 0 vals) [] ws 0 0) :
    MB l s0 D y (.code y bytes maxL ret) rm vals ws K := by
  refine vx_ofW (ws' := []) hy rfl ?_
  intro p e s m args below meth c s₁ B hml ht hv
  obtain ⟨rfl, hW0, hz, hq, hP, hD⟩ := hv
  have hl := lv_entry vals (n := maxL) hn
  rw [lg_entry_eq]
  generalize (lg_sl vals ++ List.replicate (maxL - (lg_sl vals).length) Slot.unset).toArray = ls at hl ⊢
  let kk : kx_T := ((p, l, e, (headSpec [Cond.code y bytes maxL ret] rm).room, s, m, vals.toArray, below, meth, c, vx_MQ below (mb_Q s0 D K) (mb_X s0 D K) vals.toArray s rm.cells rm.slots (mb_F s0)), (s0, D, tys, y.cls, bytes, maxL))
  have hC : kx_ok kk := ⟨B.exec, B.bytes, hml, findClass_of_methodNamed B.named, hW0, va_K.moved hW0.alike Z.2.2.1, hz, hq, B.notSynchronized, fun w hw => by
    obtain ⟨h1, h2⟩ := List.mem_filter.mp hw
    exact word_at hW0 (good_of_word h2) (Z.2.1 w h1)⟩
  exact body kk hC rfl rfl rfl rfl rfl rfl rfl rfl B.returns (name_of_methodNamed B.named B.method).1 ht rfl s.heap [] ls hP hD va_S.rf hl
end L4
end
section
/-! Layer 1: arraycopy, arrays of arrays, the law's own helpers -/
section L5
variable {k : kx_T} {pc : Nat} {lv : List (Nat × Value)} {st : List Value} {ws : va_W} {ce sl : Nat} {K : mb_O → va_W → Prop} {y : MethodName} {rm : Room} {bytes : ByteArray} {maxL : Nat} {ret : Option FieldType} {a0 : Array Value}
theorem w_copyi (C : kx_ok k) {idx q0 q1 t0 a b : Nat} {c0 : ClassId} {n0 n1 : Nat} {f g : Nat → Int32} {sp dp n : Int32} (hl : Cond.methodLink (kOwn k) idx arraycopyName ∈ gT) (hnat : Cond.native arraycopyName ∈ gT) (hst : Cond.static arraycopyName ∈ gT) (hini : Cond.initialized "java/lang/System" ∈ gT)
    (ha0 : ws[q0]? = some (a, .inl (c0, n0, .inl f))) (ha1 : ws[q1]? = some (b, .inl (c0, n1, .inl g))) (ht : (kTy k)[t0]? = some (c0, .int)) (h1 : ¬ sp < 0) (h2 : ¬ dp < 0) (h3 : ¬ n < 0) (h4 : sp.toNatClampNeg + n.toNatClampNeg ≤ n0) (h5 : dp.toNatClampNeg + n.toNatClampNeg ≤ n1)
    (hf : 1 ≤ (kR k).frames) (hlo : (st.map fun v => v.category).sum + (nativeFrameWords "java/lang/System" "arraycopy" 5 + 11) ≤ (kR k).locals) (d : decode (kCc k) pc = .ok (.invokestatic idx, 3))
    (h : WS k (pc + 3) lv st (ws.set q1 (b, .inl (c0, n1, .inl (va_cpy f g sp.toNatClampNeg dp.toNatClampNeg n.toNatClampNeg)))) ce sl) : WS k pc lv (.int n :: .int dp :: .ref b :: .int sp :: .ref a :: st) ws ce sl :=
  fun H locs ls hP hD hS hlv => va_copyi C.1 C.2.1 (C.2.2.1.trans hlv.1.symm) C.2.2.2.1 (kx_wd C _ hl) (kx_wd C _ hnat) (kx_wd C _ hst) (kx_wd C _ hini) (kx_K C) hP hD hS q0 q1 t0 t0 ha0 ha1 ht ht rfl h1 h2 h3 h4 h5 (fun _ _ => rfl) hf hlo d (fun H1 l1 p1 p2 p3 => h H1 l1 ls p1 p2 p3 hlv)
theorem vr_outer (c : ClassId) (N h0 : Nat) : ∀ i : Nat, Jvm.Free.Multi.outerC c N h0 i = arrV c N (fun j => va_rf (if j < i then some (h0 + 1 + j) else none))
  | 0 => by
    show ({ cls := c, slots := Array.replicate N .null, vm := .none } : Cell) = _
    rw [arrV_new]
    refine congrArg (arrV c N) (funext fun j => ?_)
    simp [va_rf]
  | i + 1 => by
    show (Jvm.Free.Multi.outerC c N h0 i).setSlot i (.ref (h0 + 1 + i)) = _
    rw [vr_outer c N h0 i, arrV_store]
    refine congrArg (arrV c N) (funext fun j => ?_)
    by_cases e : j = i
    · subst e
      simp [updV, va_rf]
    · by_cases h : j < i
      · simp [updV, e, h, Nat.lt_succ_of_lt h]
      · simp [updV, e, h, show ¬ j < i + 1 by omega]
/-- cells laid one behind another from q on -/
def vz_row (q : Nat) (es : List va_E) : va_W := es.zipIdx.map (fun x => (q + x.2, x.1))
theorem vz_get {q j : Nat} {es : List va_E} {x : Nat × va_E} (h : (vz_row q es)[j]? = some x) : ∃ e, es[j]? = some e ∧ x = (q + j, e) := by
  unfold vz_row at h
  rw [List.getElem?_map, List.getElem?_zipIdx] at h
  cases he : es[j]? with
  | none => rw [he] at h; cases h
  | some e => rw [he] at h; cases h; exact ⟨e, rfl, by simp⟩
/-- new cells behind the heap: the world grows by them -/
theorem vz_grow {D : va_G} {A : Nat → Prop} {es : List va_E} {H H1 : Heap} (hP : va_P D vwCl ws H) (hD : va_D A ws) (hA : ∀ q, H.size ≤ q → A q) (hold : ∀ q : Nat, q < H.size → H1[q]? = H[q]?) (hnew : ∀ (j : Nat) (e : va_E), es[j]? = some e → va_at D vwCl (H.size + j, e) H1) :
    va_P D vwCl (ws ++ vz_row H.size es) H1 ∧ va_D A (ws ++ vz_row H.size es) := by
  refine ⟨va_P.app (hP.kept (fun j x hx => hold x.1 ((hP j x hx).lt))) (fun j x hx => ?_), va_D.app hD ⟨fun i j x z hx hz e => ?_, fun j x hx => ?_⟩ (fun i j x z hx hz e => ?_)⟩
  · obtain ⟨e, he, rfl⟩ := vz_get hx
    exact hnew j e he
  · obtain ⟨e1, -, rfl⟩ := vz_get hx
    obtain ⟨e2, -, rfl⟩ := vz_get hz
    simpa using e
  · obtain ⟨e1, -, rfl⟩ := vz_get hx
    exact hA _ (Nat.le_add_right _ _)
  · obtain ⟨e2, -, rfl⟩ := vz_get hz
    have := (hP i x hx).lt
    simp only at e
    omega
/-- new int[N][M]: the outer array, then its rows -/
theorem w_mna2 (C : kx_ok k) {idx t0 t1 N M : Nat} {cA cy : ClassId} {n m : Int32} (hcl : Cond.classLink (kOwn k) idx "[[I" ∈ gT) (hov : (Cond.arrayOver (.array .int)).before (kA k) (kS k) = true) (harr : Cond.arrayClass .int ∈ gT) (ht0 : (kTy k)[t0]? = some (cy, .int)) (ht1 : (kTy k)[t1]? = some (cA, .array .int))
    (hn : ¬ n < 0) (hm : ¬ m < 0) (hN : n.toNatClampNeg = N) (hM : m.toNatClampNeg = M) (hb1 : N * 4 ≤ 536870912) (hb2 : M * 4 ≤ 536870912) (h1 : ce + (1 + N) ≤ (kR k).cells) (h2 : sl + (N + N * M) ≤ (kR k).slots) (d : decode (kCc k) pc = .ok (.multianewarray idx 2, 4))
    (h : ∀ q : Nat, WS k (pc + 4) lv (.ref q :: st) (ws ++ vz_row q (.inl (cA, N, .inr (.inr (.inr (.inr (fun i => if i < N then some (q + 1 + i) else none))))) :: List.replicate N (.inl (cy, M, .inl (fun _ => 0))))) (ce + 1 + N) (sl + N + N * M)) : WS k pc lv (.int m :: .int n :: st) ws ce sl := by
  intro H locs ls hP hD hS hl
  subst hN
  subst hM
  intro T hT X
  obtain ⟨vm₁, cB, comp, -, fA, fC, -, -, X', step⟩ := X.multianewarray2F C.1 C.2.2.2.1 (kx_wd C _ hcl) hov (kx_wd C _ harr) (g := F0 (kM k) pc ls (.int m :: .int n :: st)) rfl (by rw [C.2.1]; exact d) rfl hn hm hb1 hb2 (by omega) rfl rfl h1 h2
  have e1 : cB = cA := kx_ty C (fun _ h => by cases h) ht1 fA
  have e2 : comp = cy := kx_ty C (fun _ h => by cases h) ht0 fC
  subst e1
  subst e2
  generalize hF : Jvm.Free.Multi.fill (T.setVm vm₁) cB comp n.toNatClampNeg m.toNatClampNeg (defaultValue .int) n.toNatClampNeg = F at X' step
  have hTh : (T.setVm vm₁).heap = H := hT
  obtain ⟨f1, f2, -, -⟩ := Jvm.Free.Multi.fill_facts (T.setVm vm₁) cB comp n.toNatClampNeg m.toNatClampNeg (defaultValue .int) n.toNatClampNeg
  rw [hF, hTh] at f1 f2
  have hold : ∀ x : Nat, x < H.size → F.heap[x]? = H[x]? := fun x hx => by
    have := Jvm.Free.Multi.fill_old (T.setVm vm₁) cB comp n.toNatClampNeg m.toNatClampNeg (defaultValue .int) (a := x) (by rw [hTh]; exact hx) n.toNatClampNeg
    rw [hF, hTh] at this
    exact this
  have hrow : ∀ j : Nat, j < n.toNatClampNeg → F.heap[H.size + 1 + j]? = some (arrV comp m.toNatClampNeg (fun _ => .int 0)) := fun j hj => by
    have := Jvm.Free.Multi.fill_inner (T.setVm vm₁) cB comp n.toNatClampNeg m.toNatClampNeg (defaultValue .int) n.toNatClampNeg j hj
    rw [hF, hTh] at this
    rw [this]
    show some ({ cls := comp, slots := Array.replicate m.toNatClampNeg (.int 0), vm := .none } : Cell) = _
    rw [arrV_new]
  have hg := vz_grow (es := .inl (cB, n.toNatClampNeg, .inr (.inr (.inr (.inr (fun i => if i < n.toNatClampNeg then some (H.size + 1 + i) else none))))) :: List.replicate n.toNatClampNeg (.inl (comp, m.toNatClampNeg, .inl (fun _ => 0)))) hP hD (fun q hq => kx_new C q (Nat.le_trans hS.1 hq)) hold (fun j e he => by
    cases j with
    | zero =>
      cases he
      show F.heap[H.size + 0]? = some (vp_cell _ _)
      rw [vp_cell_q, Nat.add_zero, f2, vr_outer]
    | succ j =>
      rw [List.getElem?_cons_succ, List.getElem?_replicate] at he
      split at he
      · cases he
        show F.heap[H.size + (j + 1)]? = some (vp_cell _ _)
        rw [vp_cell_i, ← hrow j (by assumption)]
        congr 1
        omega
      · cases he)
  obtain ⟨t, a1, b1⟩ := h H.size F.heap locs ls hg.1 hg.2 ⟨by rw [f1]; have := hS.1; omega, fun x h3 h4 => (hold x (Nat.lt_of_lt_of_le h3 hS.1)).trans (hS.2.1 x h3 h4), hS.2.2⟩ hl F rfl X'
  refine ⟨t, step t ?_, b1⟩
  have e : T.heap.size = H.size := by rw [hT]
  rw [e]
  exact a1
end L5
end
section
/-! Layer 1: new int[N][M][L] -/
section CU
def f3_o (c : ClassId) (N h0 w : Nat) : Nat → Cell
  | 0 => { cls := c, slots := Array.replicate N .null, vm := .none }
  | i + 1 => (f3_o c N h0 w i).setSlot i (.ref (h0 + 1 + i * w))
def f3 (s : State) (c c2 c1 : ClassId) (N M L : Nat) (dv : Value) : Nat → State
  | 0 => s.pushCell (f3_o c N s.heap.size (1 + M) 0)
  | i + 1 => (Jvm.Free.Multi.fill (f3 s c c2 c1 N M L dv i) c2 c1 M L dv M).setCell s.heap.size (f3_o c N s.heap.size (1 + M) (i + 1))
theorem f3_o_facts (c : ClassId) (N h0 w : Nat) : ∀ i, (f3_o c N h0 w i).cls = c ∧ (f3_o c N h0 w i).vm = .none ∧ (f3_o c N h0 w i).slots.size = N
  | 0 => ⟨rfl, rfl, by simp [f3_o]⟩
  | i + 1 => by
    obtain ⟨a, b, d⟩ := f3_o_facts c N h0 w i
    exact ⟨by simp [f3_o, Cell.setSlot, a], by simp [f3_o, Cell.setSlot, b], by simp [f3_o, Cell.setSlot, d]⟩
theorem f3_arr (c : ClassId) (N h0 w : Nat) : ∀ i : Nat, f3_o c N h0 w i = arrV c N (fun j => va_rf (if j < i then some (h0 + 1 + j * w) else none))
  | 0 => by
    show ({ cls := c, slots := Array.replicate N .null, vm := .none } : Cell) = _
    rw [arrV_new]
    refine congrArg (arrV c N) (funext fun j => ?_)
    simp [va_rf]
  | i + 1 => by
    show (f3_o c N h0 w i).setSlot i (.ref (h0 + 1 + i * w)) = _
    rw [f3_arr c N h0 w i, arrV_store]
    refine congrArg (arrV c N) (funext fun j => ?_)
    by_cases e : j = i
    · subst e
      simp [updV, va_rf]
    · by_cases h : j < i
      · simp [updV, e, h, Nat.lt_succ_of_lt h]
      · simp [updV, e, h, show ¬ j < i + 1 by omega]
theorem f3_facts (s : State) (c c2 c1 : ClassId) (N M L : Nat) (dv : Value) : ∀ i, (f3 s c c2 c1 N M L dv i).heap.size = s.heap.size + 1 + i * (1 + M) ∧ (f3 s c c2 c1 N M L dv i).heap[s.heap.size]? = some (f3_o c N s.heap.size (1 + M) i) ∧
    (f3 s c c2 c1 N M L dv i).vm = s.vm ∧ (f3 s c c2 c1 N M L dv i).slotsUsed = s.slotsUsed + N + i * (M + M * L)
  | 0 => ⟨by simp [f3], by simp [f3], rfl, by simp [f3, f3_o]⟩
  | i + 1 => by
    obtain ⟨a, b, d, u⟩ := f3_facts s c c2 c1 N M L dv i
    obtain ⟨g1, -, g3, g4⟩ := Jvm.Free.Multi.fill_facts (f3 s c c2 c1 N M L dv i) c2 c1 M L dv M
    have hlt : s.heap.size < (f3 s c c2 c1 N M L dv i).heap.size := by rw [a]; omega
    have hb' : (Jvm.Free.Multi.fill (f3 s c c2 c1 N M L dv i) c2 c1 M L dv M).heap[s.heap.size]? = some (f3_o c N s.heap.size (1 + M) i) := by rw [Jvm.Free.Multi.fill_old (ha := hlt)]; exact b
    refine ⟨?_, State.heap_setCell_self hb', by simp [f3, g3, d], ?_⟩
    · simp only [f3, State.setCell, Array.size_setIfInBounds, g1, a, Nat.succ_mul]; omega
    · simp only [f3, State.slotsUsed_setCell, g4, u, Nat.succ_mul]; omega
theorem f3_setTop (s : State) (f : JFrame) (c c2 c1 : ClassId) (N M L : Nat) (dv : Value) : ∀ i, f3 (s.setTop f) c c2 c1 N M L dv i = (f3 s c c2 c1 N M L dv i).setTop f
  | 0 => rfl
  | i + 1 => by simp only [f3, f3_setTop s f c c2 c1 N M L dv i, State.heap_setTop, Jvm.Free.Multi.fill_setTop, State.setCell_setTop]
theorem f3_old (s : State) (c c2 c1 : ClassId) (N M L : Nat) (dv : Value) {a : Addr} (ha : a < s.heap.size) : ∀ i, (f3 s c c2 c1 N M L dv i).heap[a]? = s.heap[a]?
  | 0 => State.heap_pushCell_of_lt _ _ ha
  | i + 1 => by
    have f1 := (f3_facts s c c2 c1 N M L dv i).1
    have hlt : a < (f3 s c c2 c1 N M L dv i).heap.size := Nat.lt_of_lt_of_le ha (by rw [f1]; omega)
    show ((Jvm.Free.Multi.fill (f3 s c c2 c1 N M L dv i) c2 c1 M L dv M).setCell s.heap.size _).heap[a]? = _
    rw [State.heap_setCell_other (Nat.ne_of_gt ha), Jvm.Free.Multi.fill_old (ha := hlt)]
    exact f3_old s c c2 c1 N M L dv ha i
/-- the cell at h0 + 1 + j: the head of a plane, or a row -/
theorem f3_in (s : State) (c c2 c1 : ClassId) (N M L : Nat) (dv : Value) : ∀ i j, j < i * (1 + M) → (f3 s c c2 c1 N M L dv i).heap[s.heap.size + 1 + j]? = some (if j % (1 + M) = 0 then Jvm.Free.Multi.outerC c2 M (s.heap.size + 1 + j) M else Jvm.Free.Multi.innerC c1 L dv)
  | 0, j, h => by simp at h
  | i + 1, j, h => by
    have f1 := (f3_facts s c c2 c1 N M L dv i).1
    show ((Jvm.Free.Multi.fill (f3 s c c2 c1 N M L dv i) c2 c1 M L dv M).setCell s.heap.size _).heap[s.heap.size + 1 + j]? = _
    rw [State.heap_setCell_other (show s.heap.size ≠ s.heap.size + 1 + j by omega)]
    rcases Nat.lt_or_ge j (i * (1 + M)) with hj | hj
    · have hlt : s.heap.size + 1 + j < (f3 s c c2 c1 N M L dv i).heap.size := by rw [f1]; omega
      rw [Jvm.Free.Multi.fill_old (ha := hlt)]
      exact f3_in s c c2 c1 N M L dv i j hj
    · obtain ⟨g1, g2, -, -⟩ := Jvm.Free.Multi.fill_facts (f3 s c c2 c1 N M L dv i) c2 c1 M L dv M
      obtain ⟨r, rfl⟩ := Nat.exists_eq_add_of_le hj
      have hr : r < 1 + M := by rw [Nat.succ_mul] at h; omega
      have hmod : (i * (1 + M) + r) % (1 + M) = r := by rw [Nat.mul_add_mod_self_right, Nat.mod_eq_of_lt hr]
      rw [hmod]
      cases r with
      | zero =>
        rw [if_pos rfl, Nat.add_zero]
        rw [f1] at g2
        exact g2
      | succ r =>
        rw [if_neg (by omega)]
        have := Jvm.Free.Multi.fill_inner (f3 s c c2 c1 N M L dv i) c2 c1 M L dv M r (by omega)
        rw [f1] at this
        rw [← this, show s.heap.size + 1 + (i * (1 + M) + (r + 1)) = s.heap.size + 1 + i * (1 + M) + 1 + r by omega]
section
variable {E : CtlPost} {e : Env} {d : Bool} {acts : List Action} {s : State}
theorem wp_make3 {c c2 c1 cc : ClassId} {k k2 k1 : Class} {t0 t1 type : FieldType} {n m l : Int32} (hk : s.vm.classes[c]? = some k) (hkind : k.kind = .array c2 t0) (href : t0.isReference = true)
    (hk2 : s.vm.classes[c2]? = some k2) (hkind2 : k2.kind = .array c1 t1) (href2 : t1.isReference = true) (hk1 : s.vm.classes[c1]? = some k1) (hkind1 : k1.kind = .array cc type) (hn : ¬ n < 0) (hm : ¬ m < 0) (hl : ¬ l < 0)
    (hl1 : ¬ n.toNatClampNeg > e.platform.arrayLengthLimit) (hh1 : ¬ n.toNatClampNeg * componentBytes t0 > e.platform.maxHeapBytes)
    (hl2 : ¬ m.toNatClampNeg > e.platform.arrayLengthLimit) (hh2 : ¬ m.toNatClampNeg * componentBytes t1 > e.platform.maxHeapBytes)
    (hl3 : ¬ l.toNatClampNeg > e.platform.arrayLengthLimit) (hh3 : ¬ l.toNatClampNeg * componentBytes type > e.platform.maxHeapBytes)
    (hdf : fits type (defaultValue type) = true) (hdd : (defaultValue type).isDefault = true)
    (hc : s.heap.size + 1 + n.toNatClampNeg * (1 + m.toNatClampNeg) ≤ e.platform.maxCells) (hs : s.slotsUsed + n.toNatClampNeg + n.toNatClampNeg * (m.toNatClampNeg + m.toNatClampNeg * l.toNatClampNeg) ≤ e.platform.maxSlots)
    {Q : Addr → Pre} (hq : ∀ d' acts', Q s.heap.size d' acts' (f3 s c c2 c1 n.toNatClampNeg m.toNatClampNeg l.toNatClampNeg (defaultValue type) n.toNatClampNeg)) :
    wp (multianewarray.make c [n, m, l]) Q E e d acts s := by
  have hfind : ([m, l].find? (· < 0)) = none := by simp [hm, hl]
  rw [multianewarray.make]
  simp only [wp_bind', W.ite, hn, if_false, wp_pure', W.theClass, hk, hkind, Option.some.injEq, exists_eq_left']
  refine Jvm.Free.Multi.wp_newArray hk hkind hl1 hh1 (Jvm.Free.Multi.refFits href _ (Or.inl rfl)) rfl (by omega) (by omega) ?_
  simp only [hfind]
  rw [ite_self, wp_bind', Std.Legacy.Range.forIn_eq_forIn_range']
  have hsz : ([:n.toNatClampNeg] : Std.Legacy.Range).size = n.toNatClampNeg := by simp [Std.Legacy.Range.size]
  rw [hsz]
  show wp (forIn (List.range' 0 n.toNatClampNeg 1) PUnit.unit _) _ E e d acts _
  refine wp_forIn_inv (fun rest s' => ∃ i, i ≤ n.toNatClampNeg ∧ rest = List.range' i (n.toNatClampNeg - i) ∧ s' = f3 s c c2 c1 n.toNatClampNeg m.toNatClampNeg l.toNatClampNeg (defaultValue type) i) _ _ ⟨0, Nat.zero_le _, rfl, rfl⟩ ?_ ?_
  · rintro x rest s' d' acts' Q' ⟨i, hi, hl, rfl⟩ hnext
    have hlt : i < n.toNatClampNeg := by
      rcases Nat.lt_or_ge i n.toNatClampNeg with h | h
      · exact h
      · rw [show n.toNatClampNeg - i = 0 from by omega] at hl; simp at hl
    obtain ⟨rfl, hrest⟩ : x = i ∧ rest = List.range' (i + 1) (n.toNatClampNeg - (i + 1)) := by
      rw [show n.toNatClampNeg - i = (n.toNatClampNeg - (i + 1)) + 1 from by omega, List.range'_succ] at hl
      exact ⟨(List.cons.inj hl).1, (List.cons.inj hl).2⟩
    obtain ⟨f1, f2, f3', f4⟩ := f3_facts s c c2 c1 n.toNatClampNeg m.toNatClampNeg l.toNatClampNeg (defaultValue type) x
    obtain ⟨o1, o2, o3⟩ := f3_o_facts c n.toNatClampNeg s.heap.size (1 + m.toNatClampNeg) x
    have hmul : x * (1 + m.toNatClampNeg) + (1 + m.toNatClampNeg) ≤ n.toNatClampNeg * (1 + m.toNatClampNeg) := by
      have := Nat.mul_le_mul_right (1 + m.toNatClampNeg) (show x + 1 ≤ n.toNatClampNeg from hlt)
      rw [Nat.succ_mul] at this; exact this
    have hmul2 : x * (m.toNatClampNeg + m.toNatClampNeg * l.toNatClampNeg) + (m.toNatClampNeg + m.toNatClampNeg * l.toNatClampNeg) ≤ n.toNatClampNeg * (m.toNatClampNeg + m.toNatClampNeg * l.toNatClampNeg) := by
      have := Nat.mul_le_mul_right (m.toNatClampNeg + m.toNatClampNeg * l.toNatClampNeg) (show x + 1 ≤ n.toNatClampNeg from hlt)
      rw [Nat.succ_mul] at this; exact this
    simp only [wp_bind']
    refine Jvm.Free.Multi.wp_make2 (t0 := t1) (by rw [f3']; exact hk2) hkind2 href2 (by rw [f3']; exact hk1) hkind1 hm (by assumption) hl2 hh2 hl3 hh3 hdf hdd (by rw [f1]; omega) (by rw [f4]; omega) (fun d2 acts2 => ?_)
    obtain ⟨-, -, g3, -⟩ := Jvm.Free.Multi.fill_facts (f3 s c c2 c1 n.toNatClampNeg m.toNatClampNeg l.toNatClampNeg (defaultValue type) x) c2 c1 m.toNatClampNeg l.toNatClampNeg (defaultValue type) m.toNatClampNeg
    have hlt0 : s.heap.size < (f3 s c c2 c1 n.toNatClampNeg m.toNatClampNeg l.toNatClampNeg (defaultValue type) x).heap.size := by rw [f1]; omega
    simp only [wp_bind', W.writeLoc, wp_pure']
    refine ⟨f3_o c n.toNatClampNeg s.heap.size (1 + m.toNatClampNeg) x, by rw [Jvm.Free.Multi.fill_old (ha := hlt0)]; exact f2, by rw [o2]; simp, by rw [o3]; exact hlt, ?_, hnext _ _ _ ⟨x + 1, hlt, hrest, ?_⟩⟩
    · rw [o1, o2]
      simp [State.fitsSlot, State.slotType?, g3, f3', hk, hkind, Jvm.Free.Multi.refFits href _ (Or.inr ⟨_, rfl⟩)]
    · rw [f1]; rfl
  · rintro s' d' acts' ⟨i, hi, hl, rfl⟩
    have hiN : i = n.toNatClampNeg := by
      rcases Nat.lt_or_ge i n.toNatClampNeg with h | h
      · rw [show n.toNatClampNeg - i = (n.toNatClampNeg - (i + 1)) + 1 from by omega, List.range'_succ] at hl; cases hl
      · omega
    subst hiN
    simp only [wp_pure']
    exact hq _ _
end
section
variable {p : Program} {l : Launch} {e : Env} {R : Room} {s : State} {m : MethodId} {args : Array Value} {below : List Frame} {meth : Method} {c : Code} {T : State} {locs : List Loc} {cells slots : Nat}
theorem f3_stand (X : Stand p l e R s m args below meth c T locs cells slots) (cA c2 c1 : ClassId) (N M L : Nat) (dv : Value) (hz : s.heap.size ≤ T.heap.size) :
    ∀ i, Stand p l e R s m args below meth c (f3 T cA c2 c1 N M L dv i) locs (cells + 1 + i * (1 + M)) (slots + N + i * (M + M * L))
  | 0 => by
    have h := X.pushed (f3_o cA N T.heap.size (1 + M) 0)
    rw [(f3_o_facts cA N T.heap.size (1 + M) 0).2.2] at h
    simpa [f3] using h
  | i + 1 => by
    have Xi := f3_stand X cA c2 c1 N M L dv hz i
    obtain ⟨f1, f2, -, -⟩ := f3_facts T cA c2 c1 N M L dv i
    have hlt0 : T.heap.size < (f3 T cA c2 c1 N M L dv i).heap.size := by rw [f1]; omega
    have X2 := Xi.filled c2 c1 M L dv M
    have X3 := X2.forget (fun y hy => by
      obtain ⟨j, -, rfl⟩ := List.mem_map.mp hy
      show s.heap.size ≤ (f3 T cA c2 c1 N M L dv i).heap.size
      omega)
    have hcell : (Jvm.Free.Multi.fill (f3 T cA c2 c1 N M L dv i) c2 c1 M L dv M).heap[T.heap.size]? = some (f3_o cA N T.heap.size (1 + M) i) := by rw [Jvm.Free.Multi.fill_old (ha := hlt0)]; exact f2
    have X4 := (X3.stored hcell i (.ref (T.heap.size + 1 + i * (1 + M)))).forget (fun y hy => by
      rw [List.mem_singleton.mp hy]
      exact hz)
    have e1 : cells + 1 + (i + 1) * (1 + M) = cells + 1 + i * (1 + M) + 1 + M := by rw [Nat.succ_mul]; omega
    have e2 : slots + N + (i + 1) * (M + M * L) = slots + N + i * (M + M * L) + M + M * L := by rw [Nat.succ_mul]; omega
    rw [e1, e2]
    exact X4
theorem mna3 (X : Stand p l e R s m args below meth c T locs cells slots) (hexec : p.tables.exec = Jvm.exec) {own : String} {index : Nat} {ty : FieldType} (hz : s.heap.size ≤ T.heap.size)
    (hown : s.vm.findClass own = some m.cls) (hclink : (Cond.classLink own index ("[" ++ (FieldType.array (.array ty)).toString)).before args s = true)
    (hover : (Cond.arrayOver (.array (.array ty))).before args s = true) (hover2 : (Cond.arrayOver (.array ty)).before args s = true) (harr : (Cond.arrayClass ty).before args s = true)
    {g : JFrame} (hg : g.method = m) (hdg : decode c.code g.pc = .ok (.multianewarray index 3, 4)) {n k l3 : Int32} {rest : List Value} (hstack : g.stack = .int l3 :: .int k :: .int n :: rest)
    (hn : ¬ n < 0) (hk : ¬ k < 0) (hl : ¬ l3 < 0) (hb1 : n.toNatClampNeg * 4 ≤ 536870912) (hb2 : k.toNatClampNeg * 4 ≤ 536870912) (hb3 : l3.toNatClampNeg * componentBytes ty ≤ 536870912) (hb4 : l3.toNatClampNeg ≤ 536870912)
    (hdf : fits ty (defaultValue ty) = true) (hdd : (defaultValue ty).isDefault = true)
    (hcells : cells + (1 + n.toNatClampNeg * (1 + k.toNatClampNeg)) ≤ R.cells) (hslots : slots + (n.toNatClampNeg + n.toNatClampNeg * (k.toNatClampNeg + k.toNatClampNeg * l3.toNatClampNeg)) ≤ R.slots) :
    ∃ (vm₁ : Vm) (cA c2 c1 : ClassId), s.WarmedH vm₁ ∧ s.vm.findClass ("[" ++ (FieldType.array (.array ty)).toString) = some cA ∧ s.vm.findClass (FieldType.array (.array ty)).toString = some c2 ∧ s.vm.findClass (FieldType.array ty).toString = some c1 ∧
      Stand p l e R s m args below meth c (f3 (T.setVm vm₁) cA c2 c1 n.toNatClampNeg k.toNatClampNeg l3.toNatClampNeg (defaultValue ty) n.toNatClampNeg) locs (cells + 1 + n.toNatClampNeg * (1 + k.toNatClampNeg)) (slots + n.toNatClampNeg + n.toNatClampNeg * (k.toNatClampNeg + k.toNatClampNeg * l3.toNatClampNeg)) ∧
      ∀ target, Steps p.tables e below ((f3 (T.setVm vm₁) cA c2 c1 n.toNatClampNeg k.toNatClampNeg l3.toNatClampNeg (defaultValue ty) n.toNatClampNeg).setTop { g with pc := g.pc + 4, stack := .ref T.heap.size :: rest }) target →
        Steps p.tables e below (T.setTop g) target := by
  subst hg
  have hpl : e.platform.magicAccessors = ({} : Platform).magicAccessors := by rw [X.admits.platform]
  obtain ⟨comp, cA, kA, hcomp, hkA, hkindA, hnameA⟩ := Cond.arrayOver_specA hover
  obtain ⟨c1, c2, k2, hc1, hk2, hkind2, hname2⟩ := Cond.arrayOver_specA hover2
  obtain ⟨c1', k1, cc, hc1', hk1, hkind1⟩ := Cond.arrayClass_spec harr
  have ec2 : comp = c2 := Option.some.inj (hcomp.symm.trans hname2)
  subst ec2
  have ec1 : c1' = c1 := Option.some.inj (hc1'.symm.trans hc1)
  subst ec1
  obtain ⟨c0, hfc0, hcl⟩ := Cond.classLink_spec hown hclink e.platform hpl
  cases hnameA.symm.trans hfc0
  obtain ⟨hg₁, hwarm₁, hready₁⟩ := State.classEntry (e := e) X.warmed hcl
  generalize T.vm.noted g.method.cls index (.cls cA) = vm₁ at hg₁ hwarm₁ hready₁
  have hal : s.vm.Alike vm₁ := hwarm₁.alike
  obtain ⟨kA₁, hkA₁, heA⟩ := hal.2.2 _ _ hkA
  obtain ⟨k2₁, hk2₁, he2⟩ := hal.2.2 _ _ hk2
  obtain ⟨k1₁, hk1₁, he1⟩ := hal.2.2 _ _ hk1
  have hkindA₁ : kA₁.kind = .array comp (.array (.array ty)) := by rw [heA]; exact hkindA
  have hkind2₁ : k2₁.kind = .array c1' (.array ty) := by rw [he2]; exact hkind2
  have hkind1₁ : k1₁.kind = .array cc ty := by rw [he1]; exact hkind1
  have X₁ := X.noted hwarm₁
  obtain ⟨hr1, hr2⟩ := X.roomAbove hcells hslots
  refine ⟨vm₁, cA, comp, c1', hwarm₁, hnameA, hcomp, hc1, f3_stand X₁ cA comp c1' _ _ _ _ hz _, fun target hrest => ?_⟩
  have hl1 : ¬ n.toNatClampNeg > e.platform.arrayLengthLimit := by rw [Launch.admits_arrayLengthLimit X.admits]; omega
  have hh1 : ¬ n.toNatClampNeg * componentBytes (.array (.array ty)) > e.platform.maxHeapBytes := by
    rw [Launch.admits_maxHeapBytes X.admits]; show ¬ n.toNatClampNeg * 4 > 536870912; omega
  have hl2 : ¬ k.toNatClampNeg > e.platform.arrayLengthLimit := by rw [Launch.admits_arrayLengthLimit X.admits]; omega
  have hh2 : ¬ k.toNatClampNeg * componentBytes (.array ty) > e.platform.maxHeapBytes := by
    rw [Launch.admits_maxHeapBytes X.admits]; show ¬ k.toNatClampNeg * 4 > 536870912; omega
  have hl3 : ¬ l3.toNatClampNeg > e.platform.arrayLengthLimit := by rw [Launch.admits_arrayLengthLimit X.admits]; omega
  have hh3 : ¬ l3.toNatClampNeg * componentBytes ty > e.platform.maxHeapBytes := by rw [Launch.admits_maxHeapBytes X.admits]; omega
  jvm_step X.here [hexec, hdg]
  simp only [multianewarray.sem, wp_bind', W.resolveClassAt_links (State.method?_setTop g X.here.top) hg₁]
  rw [W.popN, if_neg (by decide)]
  refine ⟨g, State.topJava?_setTop' (s := T.setVm vm₁) g X.here.top, [.int n, .int k, .int l3], rest, rfl, hstack, ?_⟩
  simp only [List.mapM_cons, List.mapM_nil, wp_bind', wp_pure']
  refine wp_make3 (k := kA₁) (k2 := k2₁) (k1 := k1₁) (c2 := comp) (c1 := c1') (cc := cc) (t0 := .array (.array ty)) (t1 := .array ty) (type := ty) hkA₁ hkindA₁ rfl hk2₁ hkind2₁ rfl hk1₁ hkind1₁ hn hk hl hl1 hh1 hl2 hh2 hl3 hh3 hdf hdd (by show T.heap.size + 1 + _ ≤ _; omega) (by show T.slotsUsed + _ + _ ≤ _; omega) (fun d' acts' => ?_)
  have XF := f3_stand X₁ cA comp c1' n.toNatClampNeg k.toNatClampNeg l3.toNatClampNeg (defaultValue ty) hz n.toNatClampNeg
  have eS : ((T.setTop g).setVm vm₁).setTop { g with stack := rest } = (T.setVm vm₁).setTop { g with stack := rest } := by
    show ((T.setVm vm₁).setTop g).setTop _ = _
    rw [State.setTop_setTop]
  rw [eS, f3_setTop]
  simp only [wp_bind', W.mark, W.pushRef, State.topJava?_setTop' _ XF.here.top, Option.some.injEq, exists_eq_left', State.setTop_setTop, State.heap_setTop]
  intro acts
  simp [jvm, XF.here.top]
  exact hrest
end
section
variable {k : kx_T} {pc : Nat} {lv : List (Nat × Value)} {st : List Value} {ws : va_W} {ce sl : Nat}
/-- the cells of new int[N][M][L], as they lie from q on -/
def f3_es (cA c2 c1 : ClassId) (N M L q : Nat) : List va_E :=
  .inl (cA, N, .inr (.inr (.inr (.inr (fun i => if i < N then some (q + 1 + i * (1 + M)) else none))))) ::
  (List.range (N * (1 + M))).map (fun j => if j % (1 + M) = 0 then .inl (c2, M, .inr (.inr (.inr (.inr (fun i => if i < M then some (q + 1 + j + 1 + i) else none))))) else .inl (c1, L, .inl (fun _ => 0)))
theorem w_mna3 (C : kx_ok k) {idx t0 t1 t2 N M L : Nat} {cA c2 c1 : ClassId} {n m l3 : Int32} (hcl : Cond.classLink (kOwn k) idx "[[[I" ∈ gT) (hov : (Cond.arrayOver (.array (.array .int))).before (kA k) (kS k) = true) (hov2 : (Cond.arrayOver (.array .int)).before (kA k) (kS k) = true) (harr : Cond.arrayClass .int ∈ gT)
    (ht0 : (kTy k)[t0]? = some (c1, .int)) (ht1 : (kTy k)[t1]? = some (c2, .array .int)) (ht2 : (kTy k)[t2]? = some (cA, .array (.array .int)))
    (hn : ¬ n < 0) (hm : ¬ m < 0) (hl3 : ¬ l3 < 0) (hN : n.toNatClampNeg = N) (hM : m.toNatClampNeg = M) (hL : l3.toNatClampNeg = L) (hb1 : N * 4 ≤ 536870912) (hb2 : M * 4 ≤ 536870912) (hb3 : L * 4 ≤ 536870912) (h1 : ce + (1 + N * (1 + M)) ≤ (kR k).cells) (h2 : sl + (N + N * (M + M * L)) ≤ (kR k).slots) (d : decode (kCc k) pc = .ok (.multianewarray idx 3, 4))
    (h : ∀ q : Nat, WS k (pc + 4) lv (.ref q :: st) (ws ++ vz_row q (f3_es cA c2 c1 N M L q)) (ce + 1 + N * (1 + M)) (sl + N + N * (M + M * L))) : WS k pc lv (.int l3 :: .int m :: .int n :: st) ws ce sl := by
  intro H locs ls hP hD hS hl
  subst hN
  subst hM
  subst hL
  intro T hT X
  obtain ⟨vm₁, cB, d2, d1, -, fA, fC, fE, X', step⟩ := mna3 X C.1 (by rw [hT]; exact hS.1) C.2.2.2.1 (kx_wd C _ hcl) hov hov2 (kx_wd C _ harr) (g := F0 (kM k) pc ls (.int l3 :: .int m :: .int n :: st)) rfl (by rw [C.2.1]; exact d) rfl hn hm hl3 hb1 hb2 hb3 (by omega) rfl rfl h1 h2
  have e1 : cB = cA := kx_ty C (fun _ h => by cases h) ht2 fA
  have e2 : d2 = c2 := kx_ty C (fun _ h => by cases h) ht1 fC
  have e3 : d1 = c1 := kx_ty C (fun _ h => by cases h) ht0 fE
  subst e1
  subst e2
  subst e3
  generalize hF : f3 (T.setVm vm₁) cB d2 d1 n.toNatClampNeg m.toNatClampNeg l3.toNatClampNeg (defaultValue .int) n.toNatClampNeg = F at X' step
  have hTh : (T.setVm vm₁).heap = H := hT
  obtain ⟨f1, f2, -, -⟩ := f3_facts (T.setVm vm₁) cB d2 d1 n.toNatClampNeg m.toNatClampNeg l3.toNatClampNeg (defaultValue .int) n.toNatClampNeg
  rw [hF, hTh] at f1 f2
  have hold : ∀ x : Nat, x < H.size → F.heap[x]? = H[x]? := fun x hx => by
    have := f3_old (T.setVm vm₁) cB d2 d1 n.toNatClampNeg m.toNatClampNeg l3.toNatClampNeg (defaultValue .int) (a := x) (by rw [hTh]; exact hx) n.toNatClampNeg
    rw [hF, hTh] at this
    exact this
  have hin : ∀ j : Nat, j < n.toNatClampNeg * (1 + m.toNatClampNeg) → F.heap[H.size + 1 + j]? = some (if j % (1 + m.toNatClampNeg) = 0 then Jvm.Free.Multi.outerC d2 m.toNatClampNeg (H.size + 1 + j) m.toNatClampNeg else Jvm.Free.Multi.innerC d1 l3.toNatClampNeg (defaultValue .int)) := fun j hj => by
    have := f3_in (T.setVm vm₁) cB d2 d1 n.toNatClampNeg m.toNatClampNeg l3.toNatClampNeg (defaultValue .int) n.toNatClampNeg j hj
    rw [hF, hTh] at this
    exact this
  have hg := vz_grow (es := f3_es cB d2 d1 n.toNatClampNeg m.toNatClampNeg l3.toNatClampNeg H.size) hP hD (fun q hq => kx_new C q (Nat.le_trans hS.1 hq)) hold (fun j e he => by
    cases j with
    | zero =>
      cases he
      show F.heap[H.size + 0]? = some (vp_cell _ _)
      rw [vp_cell_q, Nat.add_zero, f2, f3_arr]
    | succ j =>
      unfold f3_es at he
      rw [List.getElem?_cons_succ, List.getElem?_map] at he
      by_cases hj : j < n.toNatClampNeg * (1 + m.toNatClampNeg)
      · rw [List.getElem?_range hj] at he
        have hi := hin j hj
        rw [show H.size + 1 + j = H.size + (j + 1) by omega] at hi
        cases he
        show va_at _ _ (H.size + (j + 1), if _ then _ else _) F.heap
        by_cases h0 : j % (1 + m.toNatClampNeg) = 0
        · rw [if_pos h0] at hi ⊢
          show F.heap[H.size + (j + 1)]? = some (vp_cell _ _)
          rw [vp_cell_q, hi, vr_outer]
          congr 2
          funext i
          rw [show H.size + (j + 1) + 1 + i = H.size + 1 + j + 1 + i by omega]
        · rw [if_neg h0] at hi ⊢
          show F.heap[H.size + (j + 1)]? = some (vp_cell _ _)
          rw [vp_cell_i, hi]
          show some ({ cls := d1, slots := Array.replicate l3.toNatClampNeg (.int 0), vm := .none } : Cell) = _
          rw [arrV_new]
      · have hn0 : (List.range (n.toNatClampNeg * (1 + m.toNatClampNeg)))[j]? = none := List.getElem?_eq_none (by rw [List.length_range]; omega)
        rw [hn0] at he
        cases he)
  obtain ⟨t, a1, b1⟩ := h H.size F.heap locs ls hg.1 hg.2 ⟨by rw [f1]; have := hS.1; omega, fun x h3 h4 => (hold x (Nat.lt_of_lt_of_le h3 hS.1)).trans (hS.2.1 x h3 h4), hS.2.2⟩ hl F rfl X'
  refine ⟨t, step t ?_, b1⟩
  have e : T.heap.size = H.size := by rw [hT]
  rw [e]
  exact a1
end
end CU
end
section
/-! Types of the program's tables -/
/-- a row of code: the instruction, its length, two numbers and a whole number that belong to it -/
abbrev ARow : Type := Instr × Nat × Nat × Nat × Int
/-- a method: class, locals, what it answers (0 nothing, 1 int, 2 boolean, 3 long), arguments, room: frames, locals, cells, slots -/
abbrev AM : Type := Nat × Nat × Nat × Nat × Nat × Nat × Nat × Nat
abbrev mCl (m : AM) : Nat := m.1
abbrev mNL (m : AM) : Nat := m.2.1
abbrev mRt (m : AM) : Nat := m.2.2.1
abbrev mAr (m : AM) : Nat := m.2.2.2.1
abbrev mFr (m : AM) : Nat := m.2.2.2.2.1
abbrev mLo (m : AM) : Nat := m.2.2.2.2.2.1
abbrev mCe (m : AM) : Nat := m.2.2.2.2.2.2.1
abbrev mSl (m : AM) : Nat := m.2.2.2.2.2.2.2
/-- a table of three steps -/
def t3 {α : Type} (l : List (List (List α))) (i : Nat) : Option α := match l[i / 256]? with
  | some a => match a[i / 16 % 16]? with
    | some b => b[i % 16]?
    | none => none
  | none => none
end
