/-! Layer 1: the kit's rows over one world (a list of cells by number), all that is fixed in an activation held in one thing k. -/
abbrev kx_T : Type := (Program × Launch × Env × Room × State × MethodId × Array Value × List Frame × Method × Code × (State → Prop)) × (State × va_G × List (ClassId × FieldType) × String × ByteArray × Nat)
abbrev kP (k : kx_T) : Program := k.1.1
abbrev kL (k : kx_T) : Launch := k.1.2.1
abbrev kE (k : kx_T) : Env := k.1.2.2.1
abbrev kR (k : kx_T) : Room := k.1.2.2.2.1
abbrev kS (k : kx_T) : State := k.1.2.2.2.2.1
abbrev kM (k : kx_T) : MethodId := k.1.2.2.2.2.2.1
abbrev kA (k : kx_T) : Array Value := k.1.2.2.2.2.2.2.1
abbrev kB (k : kx_T) : List Frame := k.1.2.2.2.2.2.2.2.1
abbrev kMe (k : kx_T) : Method := k.1.2.2.2.2.2.2.2.2.1
abbrev kC (k : kx_T) : Code := k.1.2.2.2.2.2.2.2.2.2.1
abbrev kQ (k : kx_T) : State → Prop := k.1.2.2.2.2.2.2.2.2.2.2
abbrev kS0 (k : kx_T) : State := k.2.1
abbrev kD (k : kx_T) : va_G := k.2.2.1
abbrev kTy (k : kx_T) : List (ClassId × FieldType) := k.2.2.2.1
abbrev kOwn (k : kx_T) : String := k.2.2.2.2.1
abbrev kCc (k : kx_T) : ByteArray := k.2.2.2.2.2.1
abbrev kN (k : kx_T) : Nat := k.2.2.2.2.2.2
/-- the words that stay true while tables grow warm -/
def gT : List Cond := lw_tbl.filter goodWord
theorem gT_of {w : Cond} (h : w ∈ lw_tbl) (g : goodWord w = true) : w ∈ gT := List.mem_filter.mpr ⟨h, g⟩
/-- the cells that may change: all from the law's first heap on -/
abbrev kF (k : kx_T) : Nat → Prop := fun q => (kS0 k).heap.size ≤ q
/-- what holds all through an activation -/
def kx_ok (k : kx_T) : Prop :=
  (kP k).tables.exec = Jvm.exec ∧ (kC k).code = kCc k ∧ (kC k).maxLocals = kN k ∧ (kS k).vm.findClass (kOwn k) = some (kM k).cls ∧ (kS0 k).WarmedH (kS k).vm ∧
  va_K (kD k) vwCl (kTy k) (kS k) ∧ (kS0 k).heap.size ≤ (kS k).heap.size ∧ (∀ q : Nat, q < (kS0 k).heap.size → (kS k).heap[q]? = (kS0 k).heap[q]?) ∧ (kMe k).locks = false ∧ ∀ w ∈ gT, w.before (kA k) (kS k) = true
abbrev kx_W (k : kx_T) (H : Heap) (locs : List Loc) (ce sl : Nat) (g : JFrame) : Prop := W (kP k) (kL k) (kE k) (kR k) (kS k) (kM k) (kA k) (kB k) (kMe k) (kC k) H locs ce sl (kQ k) g
/-- from every heap that holds the world ws, every row of locals that holds lv: the machine comes to its goal -/
def WS (k : kx_T) (pc : Nat) (lv : List (Nat × Value)) (st : List Value) (ws : va_W) (ce sl : Nat) : Prop :=
  ∀ (H : Heap) (locs : List Loc) (ls : Array Slot), va_P (kD k) vwCl ws H → va_D (kF k) ws → va_S (kF k) (kS k).heap H locs → lv_has ls (kN k) lv → kx_W k H locs ce sl (F0 (kM k) pc ls st)
section L1
variable {k : kx_T} {pc : Nat} {lv : List (Nat × Value)} {st : List Value} {ws : va_W} {ce sl : Nat}
theorem kx_wd (C : kx_ok k) : ∀ w ∈ gT, w.before (kA k) (kS k) = true := C.2.2.2.2.2.2.2.2.2
theorem kx_K (C : kx_ok k) : va_K (kD k) vwCl (kTy k) (kS k) := C.2.2.2.2.2.1
theorem kx_new (C : kx_ok k) : ∀ q, (kS k).heap.size ≤ q → kF k q := fun _ h => Nat.le_trans C.2.2.2.2.2.2.1 h
theorem lv_mono {ls : Array Slot} {n : Nat} {l l' : List (Nat × Value)} (h : lv_has ls n l) (hs : ∀ q ∈ l', q ∈ l) : lv_has ls n l' := ⟨h.1, h.2.1, fun q hq => h.2.2 q (hs q hq)⟩
theorem lv_mem {ls : Array Slot} {n i : Nat} {v : Value} {l : List (Nat × Value)} (h : lv_has ls n l) (hm : (i, v) ∈ l) : ls[i]? = some (.val v) := h.2.2 (i, v) hm
theorem w_iconst (C : kx_ok k) {n : Int} (d : decode (kCc k) pc = .ok (.iconst n, 1)) (h : WS k (pc + 1) lv (.int (Int32.ofInt n) :: st) ws ce sl) : WS k pc lv st ws ce sl :=
  fun H locs ls hP hD hS hl => lv_iconst C.1 C.2.1 d rfl (h H locs ls hP hD hS hl)
theorem w_bipush (C : kx_ok k) {n : Int} (d : decode (kCc k) pc = .ok (.bipush n, 2)) {z : Int32} (hz : (Int8.ofInt n).toInt32 = z) (h : WS k (pc + 2) lv (.int z :: st) ws ce sl) : WS k pc lv st ws ce sl :=
  fun H locs ls hP hD hS hl => lv_bipush C.1 C.2.1 d hz (h H locs ls hP hD hS hl)
theorem w_sipush (C : kx_ok k) {n : Int} (d : decode (kCc k) pc = .ok (.sipush n, 3)) {z : Int32} (hz : (Int16.ofInt n).toInt32 = z) (h : WS k (pc + 3) lv (.int z :: st) ws ce sl) : WS k pc lv st ws ce sl :=
  fun H locs ls hP hD hS hl => lv_sipush C.1 C.2.1 d hz (h H locs ls hP hD hS hl)
theorem w_lconst (C : kx_ok k) {n : Fin 2} (d : decode (kCc k) pc = .ok (.lconst n, 1)) {z : Int64} (hz : Int64.ofNat (n : Nat) = z) (h : WS k (pc + 1) lv (.long z :: st) ws ce sl) : WS k pc lv st ws ce sl :=
  fun H locs ls hP hD hS hl => lv_lconst C.1 C.2.1 d hz (h H locs ls hP hD hS hl)
theorem w_iload_n (C : kx_ok k) {i : Fin 4} (d : decode (kCc k) pc = .ok (.iload_n i, 1)) {x : Int32} (hm : ((i : Nat), Value.int x) ∈ lv) (h : WS k (pc + 1) lv (.int x :: st) ws ce sl) : WS k pc lv st ws ce sl :=
  fun H locs ls hP hD hS hl => lv_iload_n C.1 C.2.1 d rfl (lv_mem hl hm) (h H locs ls hP hD hS hl)
theorem w_iload (C : kx_ok k) {i : Nat} (d : decode (kCc k) pc = .ok (.iload i, 2)) {x : Int32} (hm : (i, Value.int x) ∈ lv) (h : WS k (pc + 2) lv (.int x :: st) ws ce sl) : WS k pc lv st ws ce sl :=
  fun H locs ls hP hD hS hl => lv_iload C.1 C.2.1 d (lv_mem hl hm) (h H locs ls hP hD hS hl)
theorem w_lload_n (C : kx_ok k) {i : Fin 4} (d : decode (kCc k) pc = .ok (.lload_n i, 1)) {x : Int64} (hm : ((i : Nat), Value.long x) ∈ lv) (h : WS k (pc + 1) lv (.long x :: st) ws ce sl) : WS k pc lv st ws ce sl :=
  fun H locs ls hP hD hS hl => lv_lload_n C.1 C.2.1 d rfl (lv_mem hl hm) (h H locs ls hP hD hS hl)
theorem w_lload (C : kx_ok k) {i : Nat} (d : decode (kCc k) pc = .ok (.lload i, 2)) {x : Int64} (hm : (i, Value.long x) ∈ lv) (h : WS k (pc + 2) lv (.long x :: st) ws ce sl) : WS k pc lv st ws ce sl :=
  fun H locs ls hP hD hS hl => lv_lload C.1 C.2.1 d (lv_mem hl hm) (h H locs ls hP hD hS hl)
theorem w_aload_n (C : kx_ok k) {i : Fin 4} (d : decode (kCc k) pc = .ok (.aload_n i, 1)) {x : Nat} (hm : ((i : Nat), Value.ref x) ∈ lv) (h : WS k (pc + 1) lv (.ref x :: st) ws ce sl) : WS k pc lv st ws ce sl :=
  fun H locs ls hP hD hS hl => lv_aload_n C.1 C.2.1 d rfl (lv_mem hl hm) (h H locs ls hP hD hS hl)
theorem w_aload (C : kx_ok k) {i : Nat} (d : decode (kCc k) pc = .ok (.aload i, 2)) {x : Nat} (hm : (i, Value.ref x) ∈ lv) (h : WS k (pc + 2) lv (.ref x :: st) ws ce sl) : WS k pc lv st ws ce sl :=
  fun H locs ls hP hD hS hl => lv_aload C.1 C.2.1 d (lv_mem hl hm) (h H locs ls hP hD hS hl)
/-- what stays of the locals behind a store at i -/
def lv_but (i : Nat) (lv : List (Nat × Value)) : List (Nat × Value) := lv.filter (fun q => !(q.1 == i) && !(q.1 + 1 == i && q.2.category == 2))
def lv_but2 (i : Nat) (lv : List (Nat × Value)) : List (Nat × Value) := lv.filter (fun q => !(q.1 == i) && (!(q.1 == i + 1) && !(q.1 + 1 == i && q.2.category == 2)))
theorem w_istore_n (C : kx_ok k) {i : Fin 4} {x : Int32} {lv' : List (Nat × Value)} (d : decode (kCc k) pc = .ok (.istore_n i, 1)) (hn : (i : Nat) < kN k) (hs : ∀ q ∈ lv', q ∈ ((i : Nat), Value.int x) :: lv_but i lv) (h : WS k (pc + 1) lv' st ws ce sl) : WS k pc lv (.int x :: st) ws ce sl :=
  fun H locs ls hP hD hS hl => lv_istore_n C.1 C.2.1 d rfl hl hn rfl (fun ls' hl' => h H locs ls' hP hD hS (lv_mono hl' hs))
theorem w_istore (C : kx_ok k) {i : Nat} {x : Int32} {lv' : List (Nat × Value)} (d : decode (kCc k) pc = .ok (.istore i, 2)) (hn : i < kN k) (hs : ∀ q ∈ lv', q ∈ (i, Value.int x) :: lv_but i lv) (h : WS k (pc + 2) lv' st ws ce sl) : WS k pc lv (.int x :: st) ws ce sl :=
  fun H locs ls hP hD hS hl => lv_istore C.1 C.2.1 d hl hn rfl (fun ls' hl' => h H locs ls' hP hD hS (lv_mono hl' hs))
theorem w_lstore_n (C : kx_ok k) {i : Fin 4} {x : Int64} {lv' : List (Nat × Value)} (d : decode (kCc k) pc = .ok (.lstore_n i, 1)) (hn : (i : Nat) + 1 < kN k) (hs : ∀ q ∈ lv', q ∈ ((i : Nat), Value.long x) :: lv_but2 i lv) (h : WS k (pc + 1) lv' st ws ce sl) : WS k pc lv (.long x :: st) ws ce sl :=
  fun H locs ls hP hD hS hl => lv_lstore_n C.1 C.2.1 d rfl hl hn rfl (fun ls' hl' => h H locs ls' hP hD hS (lv_mono hl' hs))
theorem w_lstore (C : kx_ok k) {i : Nat} {x : Int64} {lv' : List (Nat × Value)} (d : decode (kCc k) pc = .ok (.lstore i, 2)) (hn : i + 1 < kN k) (hs : ∀ q ∈ lv', q ∈ (i, Value.long x) :: lv_but2 i lv) (h : WS k (pc + 2) lv' st ws ce sl) : WS k pc lv (.long x :: st) ws ce sl :=
  fun H locs ls hP hD hS hl => lv_lstore C.1 C.2.1 d hl hn rfl (fun ls' hl' => h H locs ls' hP hD hS (lv_mono hl' hs))
theorem w_astore_n (C : kx_ok k) {i : Fin 4} {x : Nat} {lv' : List (Nat × Value)} (d : decode (kCc k) pc = .ok (.astore_n i, 1)) (hn : (i : Nat) < kN k) (hs : ∀ q ∈ lv', q ∈ ((i : Nat), Value.ref x) :: lv_but i lv) (h : WS k (pc + 1) lv' st ws ce sl) : WS k pc lv (.ref x :: st) ws ce sl :=
  fun H locs ls hP hD hS hl => lv_astore_n C.1 C.2.1 d rfl hl hn rfl (fun ls' hl' => h H locs ls' hP hD hS (lv_mono hl' hs))
theorem w_astore (C : kx_ok k) {i : Nat} {x : Nat} {lv' : List (Nat × Value)} (d : decode (kCc k) pc = .ok (.astore i, 2)) (hn : i < kN k) (hs : ∀ q ∈ lv', q ∈ (i, Value.ref x) :: lv_but i lv) (h : WS k (pc + 2) lv' st ws ce sl) : WS k pc lv (.ref x :: st) ws ce sl :=
  fun H locs ls hP hD hS hl => lv_astore C.1 C.2.1 d hl hn rfl (fun ls' hl' => h H locs ls' hP hD hS (lv_mono hl' hs))
theorem w_iinc (C : kx_ok k) {i : Nat} {n : Int} {x : Int32} {lv' : List (Nat × Value)} (d : decode (kCc k) pc = .ok (.iinc i n, 3)) (hn : i < kN k) (hm : (i, Value.int x) ∈ lv) (hs : ∀ q ∈ lv', q ∈ (i, Value.int (x + Int32.ofInt n)) :: lv_but i lv) (h : WS k (pc + 3) lv' st ws ce sl) : WS k pc lv st ws ce sl := by
  intro H locs ls hP hD hS hl
  obtain ⟨j, hj⟩ := List.mem_iff_getElem?.mp hm
  exact lv_iinc C.1 C.2.1 d hl hj rfl hn rfl (fun ls' hl' => h H locs ls' hP hD hS (lv_mono hl' hs))
theorem w_iadd (C : kx_ok k) {x y : Int32} (d : decode (kCc k) pc = .ok (.iadd, 1)) (h : WS k (pc + 1) lv (.int (x + y) :: st) ws ce sl) : WS k pc lv (.int y :: .int x :: st) ws ce sl :=
  fun H locs ls hP hD hS hl => lv_iadd C.1 C.2.1 d (h H locs ls hP hD hS hl)
theorem w_isub (C : kx_ok k) {x y : Int32} (d : decode (kCc k) pc = .ok (.isub, 1)) (h : WS k (pc + 1) lv (.int (x - y) :: st) ws ce sl) : WS k pc lv (.int y :: .int x :: st) ws ce sl :=
  fun H locs ls hP hD hS hl => lv_isub C.1 C.2.1 d (h H locs ls hP hD hS hl)
theorem w_imul (C : kx_ok k) {x y : Int32} (d : decode (kCc k) pc = .ok (.imul, 1)) (h : WS k (pc + 1) lv (.int (x * y) :: st) ws ce sl) : WS k pc lv (.int y :: .int x :: st) ws ce sl :=
  fun H locs ls hP hD hS hl => lv_imul C.1 C.2.1 d (h H locs ls hP hD hS hl)
theorem w_iand (C : kx_ok k) {x y : Int32} (d : decode (kCc k) pc = .ok (.iand, 1)) (h : WS k (pc + 1) lv (.int (x &&& y) :: st) ws ce sl) : WS k pc lv (.int y :: .int x :: st) ws ce sl :=
  fun H locs ls hP hD hS hl => lv_iand C.1 C.2.1 d (h H locs ls hP hD hS hl)
theorem w_ior (C : kx_ok k) {x y : Int32} (d : decode (kCc k) pc = .ok (.ior, 1)) (h : WS k (pc + 1) lv (.int (x ||| y) :: st) ws ce sl) : WS k pc lv (.int y :: .int x :: st) ws ce sl :=
  fun H locs ls hP hD hS hl => lv_ior C.1 C.2.1 d (h H locs ls hP hD hS hl)
theorem w_ixor (C : kx_ok k) {x y : Int32} (d : decode (kCc k) pc = .ok (.ixor, 1)) (h : WS k (pc + 1) lv (.int (x ^^^ y) :: st) ws ce sl) : WS k pc lv (.int y :: .int x :: st) ws ce sl :=
  fun H locs ls hP hD hS hl => lv_ixor C.1 C.2.1 d (h H locs ls hP hD hS hl)
theorem w_ishl (C : kx_ok k) {x y : Int32} (d : decode (kCc k) pc = .ok (.ishl, 1)) (h : WS k (pc + 1) lv (.int (x <<< (y &&& 31)) :: st) ws ce sl) : WS k pc lv (.int y :: .int x :: st) ws ce sl :=
  fun H locs ls hP hD hS hl => lv_ishl C.1 C.2.1 d (h H locs ls hP hD hS hl)
theorem w_ishr (C : kx_ok k) {x y : Int32} (d : decode (kCc k) pc = .ok (.ishr, 1)) (h : WS k (pc + 1) lv (.int (x >>> (y &&& 31)) :: st) ws ce sl) : WS k pc lv (.int y :: .int x :: st) ws ce sl :=
  fun H locs ls hP hD hS hl => lv_ishr C.1 C.2.1 d (h H locs ls hP hD hS hl)
theorem w_ladd (C : kx_ok k) {x y : Int64} (d : decode (kCc k) pc = .ok (.ladd, 1)) (h : WS k (pc + 1) lv (.long (x + y) :: st) ws ce sl) : WS k pc lv (.long y :: .long x :: st) ws ce sl :=
  fun H locs ls hP hD hS hl => lv_ladd C.1 C.2.1 d (h H locs ls hP hD hS hl)
theorem w_lsub (C : kx_ok k) {x y : Int64} (d : decode (kCc k) pc = .ok (.lsub, 1)) (h : WS k (pc + 1) lv (.long (x - y) :: st) ws ce sl) : WS k pc lv (.long y :: .long x :: st) ws ce sl :=
  fun H locs ls hP hD hS hl => lv_lsub C.1 C.2.1 d (h H locs ls hP hD hS hl)
theorem w_land (C : kx_ok k) {x y : Int64} (d : decode (kCc k) pc = .ok (.land, 1)) (h : WS k (pc + 1) lv (.long (x &&& y) :: st) ws ce sl) : WS k pc lv (.long y :: .long x :: st) ws ce sl :=
  fun H locs ls hP hD hS hl => lv_land C.1 C.2.1 d (h H locs ls hP hD hS hl)
theorem w_lor (C : kx_ok k) {x y : Int64} (d : decode (kCc k) pc = .ok (.lor, 1)) (h : WS k (pc + 1) lv (.long (x ||| y) :: st) ws ce sl) : WS k pc lv (.long y :: .long x :: st) ws ce sl :=
  fun H locs ls hP hD hS hl => lv_lor C.1 C.2.1 d (h H locs ls hP hD hS hl)
theorem w_lxor (C : kx_ok k) {x y : Int64} (d : decode (kCc k) pc = .ok (.lxor, 1)) (h : WS k (pc + 1) lv (.long (x ^^^ y) :: st) ws ce sl) : WS k pc lv (.long y :: .long x :: st) ws ce sl :=
  fun H locs ls hP hD hS hl => lv_lxor C.1 C.2.1 d (h H locs ls hP hD hS hl)
theorem w_ineg (C : kx_ok k) {x : Int32} (d : decode (kCc k) pc = .ok (.ineg, 1)) (h : WS k (pc + 1) lv (.int (-x) :: st) ws ce sl) : WS k pc lv (.int x :: st) ws ce sl :=
  fun H locs ls hP hD hS hl => lv_ineg C.1 C.2.1 d (h H locs ls hP hD hS hl)
theorem w_lneg (C : kx_ok k) {x : Int64} (d : decode (kCc k) pc = .ok (.lneg, 1)) (h : WS k (pc + 1) lv (.long (-x) :: st) ws ce sl) : WS k pc lv (.long x :: st) ws ce sl :=
  fun H locs ls hP hD hS hl => lv_lneg C.1 C.2.1 d (h H locs ls hP hD hS hl)
theorem w_idiv (C : kx_ok k) {x y : Int32} (d : decode (kCc k) pc = .ok (.idiv, 1)) (hne : ¬ y = 0) (h : WS k (pc + 1) lv (.int (x / y) :: st) ws ce sl) : WS k pc lv (.int y :: .int x :: st) ws ce sl :=
  fun H locs ls hP hD hS hl => lv_idiv C.1 C.2.1 d hne (h H locs ls hP hD hS hl)
theorem w_irem (C : kx_ok k) {x y : Int32} (d : decode (kCc k) pc = .ok (.irem, 1)) (hne : ¬ y = 0) (h : WS k (pc + 1) lv (.int (x - x / y * y) :: st) ws ce sl) : WS k pc lv (.int y :: .int x :: st) ws ce sl :=
  fun H locs ls hP hD hS hl => lv_irem C.1 C.2.1 d hne (h H locs ls hP hD hS hl)
theorem w_iushr (C : kx_ok k) {x y : Int32} (d : decode (kCc k) pc = .ok (.iushr, 1)) (h : WS k (pc + 1) lv (.int ((x.toUInt32 >>> (y.toUInt32 &&& Int32.toUInt32 31)).toInt32) :: st) ws ce sl) : WS k pc lv (.int y :: .int x :: st) ws ce sl :=
  fun H locs ls hP hD hS hl => lv_iushr C.1 C.2.1 d rfl (h H locs ls hP hD hS hl)
theorem w_lushr (C : kx_ok k) {x : Int64} {y : Int32} (d : decode (kCc k) pc = .ok (.lushr, 1)) (h : WS k (pc + 1) lv (.long ((x.toUInt64 >>> (y.toInt64.toUInt64 &&& Int64.toUInt64 63)).toInt64) :: st) ws ce sl) : WS k pc lv (.int y :: .long x :: st) ws ce sl :=
  fun H locs ls hP hD hS hl => lv_lushr C.1 C.2.1 d rfl (h H locs ls hP hD hS hl)
theorem w_lshl (C : kx_ok k) {x : Int64} {y : Int32} (d : decode (kCc k) pc = .ok (.lshl, 1)) (h : WS k (pc + 1) lv (.long (x <<< (y.toInt64 &&& 63)) :: st) ws ce sl) : WS k pc lv (.int y :: .long x :: st) ws ce sl :=
  fun H locs ls hP hD hS hl => lv_lshl C.1 C.2.1 d rfl (h H locs ls hP hD hS hl)
theorem w_lcmp (C : kx_ok k) {x y : Int64} (d : decode (kCc k) pc = .ok (.lcmp, 1)) (h : WS k (pc + 1) lv (.int (lg_cmp x y) :: st) ws ce sl) : WS k pc lv (.long y :: .long x :: st) ws ce sl :=
  fun H locs ls hP hD hS hl => W.lcmp C.1 C.2.1 d (h H locs ls hP hD hS hl)
theorem w_i2l (C : kx_ok k) {x : Int32} (d : decode (kCc k) pc = .ok (.i2l, 1)) (h : WS k (pc + 1) lv (.long x.toInt64 :: st) ws ce sl) : WS k pc lv (.int x :: st) ws ce sl :=
  fun H locs ls hP hD hS hl => lv_i2l C.1 C.2.1 d rfl (h H locs ls hP hD hS hl)
theorem w_l2i (C : kx_ok k) {x : Int64} (d : decode (kCc k) pc = .ok (.l2i, 1)) (h : WS k (pc + 1) lv (.int x.toInt32 :: st) ws ce sl) : WS k pc lv (.long x :: st) ws ce sl :=
  fun H locs ls hP hD hS hl => lv_l2i C.1 C.2.1 d rfl (h H locs ls hP hD hS hl)
theorem w_dup (C : kx_ok k) {x : Value} (d : decode (kCc k) pc = .ok (.dup, 1)) (hx : x.category = 1) (h : WS k (pc + 1) lv (x :: x :: st) ws ce sl) : WS k pc lv (x :: st) ws ce sl :=
  fun H locs ls hP hD hS hl => lv_dup C.1 C.2.1 d hx (h H locs ls hP hD hS hl)
theorem w_pop (C : kx_ok k) {x : Value} (d : decode (kCc k) pc = .ok (.pop, 1)) (hx : x.category = 1) (h : WS k (pc + 1) lv st ws ce sl) : WS k pc lv (x :: st) ws ce sl :=
  fun H locs ls hP hD hS hl => lv_pop C.1 C.2.1 d hx (h H locs ls hP hD hS hl)
theorem w_dup2_11 (C : kx_ok k) {x y : Value} (d : decode (kCc k) pc = .ok (.dup2, 1)) (hx : x.category = 1) (hy : y.category = 1) (h : WS k (pc + 1) lv (x :: y :: x :: y :: st) ws ce sl) : WS k pc lv (x :: y :: st) ws ce sl :=
  fun H locs ls hP hD hS hl => lv_dup2_11 C.1 C.2.1 d hx hy (h H locs ls hP hD hS hl)
theorem w_dup2_2 (C : kx_ok k) {x : Value} (d : decode (kCc k) pc = .ok (.dup2, 1)) (hx : x.category = 2) (h : WS k (pc + 1) lv (x :: x :: st) ws ce sl) : WS k pc lv (x :: st) ws ce sl :=
  fun H locs ls hP hD hS hl => lv_dup2_2 C.1 C.2.1 d hx (h H locs ls hP hD hS hl)
theorem w_icmp_eq (C : kx_ok k) {x y : Int32} {off : Int} {t : Nat} (d : decode (kCc k) pc = .ok (.if_icmp .eq off, 3)) (ht : (pc : Int) + off = (t : Int)) (h1 : x = y → WS k t lv st ws ce sl) (h2 : ¬ (x = y) → WS k (pc + 3) lv st ws ce sl) : WS k pc lv (.int y :: .int x :: st) ws ce sl :=
  fun H locs ls hP hD hS hl => lv_icmp_eq C.1 C.2.1 d ht (fun q => h1 q H locs ls hP hD hS hl) (fun q => h2 q H locs ls hP hD hS hl)
theorem w_if_eq (C : kx_ok k) {x : Int32} {off : Int} {t : Nat} (d : decode (kCc k) pc = .ok (.ifCond .eq off, 3)) (ht : (pc : Int) + off = (t : Int)) (h1 : x = 0 → WS k t lv st ws ce sl) (h2 : ¬ (x = 0) → WS k (pc + 3) lv st ws ce sl) : WS k pc lv (.int x :: st) ws ce sl :=
  fun H locs ls hP hD hS hl => lv_if_eq C.1 C.2.1 d ht (fun q => h1 q H locs ls hP hD hS hl) (fun q => h2 q H locs ls hP hD hS hl)
theorem w_icmp_ne (C : kx_ok k) {x y : Int32} {off : Int} {t : Nat} (d : decode (kCc k) pc = .ok (.if_icmp .ne off, 3)) (ht : (pc : Int) + off = (t : Int)) (h1 : x ≠ y → WS k t lv st ws ce sl) (h2 : x = y → WS k (pc + 3) lv st ws ce sl) : WS k pc lv (.int y :: .int x :: st) ws ce sl :=
  fun H locs ls hP hD hS hl => lv_icmp_ne C.1 C.2.1 d ht (fun q => h1 q H locs ls hP hD hS hl) (fun q => h2 q H locs ls hP hD hS hl)
theorem w_if_ne (C : kx_ok k) {x : Int32} {off : Int} {t : Nat} (d : decode (kCc k) pc = .ok (.ifCond .ne off, 3)) (ht : (pc : Int) + off = (t : Int)) (h1 : x ≠ 0 → WS k t lv st ws ce sl) (h2 : x = 0 → WS k (pc + 3) lv st ws ce sl) : WS k pc lv (.int x :: st) ws ce sl :=
  fun H locs ls hP hD hS hl => lv_if_ne C.1 C.2.1 d ht (fun q => h1 q H locs ls hP hD hS hl) (fun q => h2 q H locs ls hP hD hS hl)
theorem w_icmp_lt (C : kx_ok k) {x y : Int32} {off : Int} {t : Nat} (d : decode (kCc k) pc = .ok (.if_icmp .lt off, 3)) (ht : (pc : Int) + off = (t : Int)) (h1 : x < y → WS k t lv st ws ce sl) (h2 : ¬ (x < y) → WS k (pc + 3) lv st ws ce sl) : WS k pc lv (.int y :: .int x :: st) ws ce sl :=
  fun H locs ls hP hD hS hl => lv_icmp_lt C.1 C.2.1 d ht (fun q => h1 q H locs ls hP hD hS hl) (fun q => h2 q H locs ls hP hD hS hl)
theorem w_if_lt (C : kx_ok k) {x : Int32} {off : Int} {t : Nat} (d : decode (kCc k) pc = .ok (.ifCond .lt off, 3)) (ht : (pc : Int) + off = (t : Int)) (h1 : x < 0 → WS k t lv st ws ce sl) (h2 : ¬ (x < 0) → WS k (pc + 3) lv st ws ce sl) : WS k pc lv (.int x :: st) ws ce sl :=
  fun H locs ls hP hD hS hl => lv_if_lt C.1 C.2.1 d ht (fun q => h1 q H locs ls hP hD hS hl) (fun q => h2 q H locs ls hP hD hS hl)
theorem w_icmp_ge (C : kx_ok k) {x y : Int32} {off : Int} {t : Nat} (d : decode (kCc k) pc = .ok (.if_icmp .ge off, 3)) (ht : (pc : Int) + off = (t : Int)) (h1 : y ≤ x → WS k t lv st ws ce sl) (h2 : ¬ (y ≤ x) → WS k (pc + 3) lv st ws ce sl) : WS k pc lv (.int y :: .int x :: st) ws ce sl :=
  fun H locs ls hP hD hS hl => lv_icmp_ge C.1 C.2.1 d ht (fun q => h1 q H locs ls hP hD hS hl) (fun q => h2 q H locs ls hP hD hS hl)
theorem w_if_ge (C : kx_ok k) {x : Int32} {off : Int} {t : Nat} (d : decode (kCc k) pc = .ok (.ifCond .ge off, 3)) (ht : (pc : Int) + off = (t : Int)) (h1 : 0 ≤ x → WS k t lv st ws ce sl) (h2 : ¬ (0 ≤ x) → WS k (pc + 3) lv st ws ce sl) : WS k pc lv (.int x :: st) ws ce sl :=
  fun H locs ls hP hD hS hl => lv_if_ge C.1 C.2.1 d ht (fun q => h1 q H locs ls hP hD hS hl) (fun q => h2 q H locs ls hP hD hS hl)
theorem w_icmp_gt (C : kx_ok k) {x y : Int32} {off : Int} {t : Nat} (d : decode (kCc k) pc = .ok (.if_icmp .gt off, 3)) (ht : (pc : Int) + off = (t : Int)) (h1 : y < x → WS k t lv st ws ce sl) (h2 : ¬ (y < x) → WS k (pc + 3) lv st ws ce sl) : WS k pc lv (.int y :: .int x :: st) ws ce sl :=
  fun H locs ls hP hD hS hl => lv_icmp_gt C.1 C.2.1 d ht (fun q => h1 q H locs ls hP hD hS hl) (fun q => h2 q H locs ls hP hD hS hl)
theorem w_if_gt (C : kx_ok k) {x : Int32} {off : Int} {t : Nat} (d : decode (kCc k) pc = .ok (.ifCond .gt off, 3)) (ht : (pc : Int) + off = (t : Int)) (h1 : 0 < x → WS k t lv st ws ce sl) (h2 : ¬ (0 < x) → WS k (pc + 3) lv st ws ce sl) : WS k pc lv (.int x :: st) ws ce sl :=
  fun H locs ls hP hD hS hl => lv_if_gt C.1 C.2.1 d ht (fun q => h1 q H locs ls hP hD hS hl) (fun q => h2 q H locs ls hP hD hS hl)
theorem w_icmp_le (C : kx_ok k) {x y : Int32} {off : Int} {t : Nat} (d : decode (kCc k) pc = .ok (.if_icmp .le off, 3)) (ht : (pc : Int) + off = (t : Int)) (h1 : x ≤ y → WS k t lv st ws ce sl) (h2 : ¬ (x ≤ y) → WS k (pc + 3) lv st ws ce sl) : WS k pc lv (.int y :: .int x :: st) ws ce sl :=
  fun H locs ls hP hD hS hl => lv_icmp_le C.1 C.2.1 d ht (fun q => h1 q H locs ls hP hD hS hl) (fun q => h2 q H locs ls hP hD hS hl)
theorem w_if_le (C : kx_ok k) {x : Int32} {off : Int} {t : Nat} (d : decode (kCc k) pc = .ok (.ifCond .le off, 3)) (ht : (pc : Int) + off = (t : Int)) (h1 : x ≤ 0 → WS k t lv st ws ce sl) (h2 : ¬ (x ≤ 0) → WS k (pc + 3) lv st ws ce sl) : WS k pc lv (.int x :: st) ws ce sl :=
  fun H locs ls hP hD hS hl => lv_if_le C.1 C.2.1 d ht (fun q => h1 q H locs ls hP hD hS hl) (fun q => h2 q H locs ls hP hD hS hl)
theorem w_goto (C : kx_ok k) {off : Int} {t : Nat} (d : decode (kCc k) pc = .ok (.goto off, 3)) (ht : (pc : Int) + off = (t : Int)) (h : WS k t lv st ws ce sl) : WS k pc lv st ws ce sl :=
  fun H locs ls hP hD hS hl => lv_goto C.1 C.2.1 d ht (h H locs ls hP hD hS hl)
theorem w_tabOut (C : kx_ok k) {dflt lo hi : Int} {offs : Array Int} {len : Nat} {x : Int32} {t : Nat} (d : decode (kCc k) pc = .ok (.tableswitch dflt lo hi offs, len)) (hx : x.toInt < lo ∨ hi < x.toInt) (ht : (pc : Int) + dflt = (t : Int)) (h : WS k t lv st ws ce sl) : WS k pc lv (.int x :: st) ws ce sl :=
  fun H locs ls hP hD hS hl => lv_tableOut C.1 C.2.1 d hx ht (h H locs ls hP hD hS hl)
theorem w_tabIn (C : kx_ok k) {dflt lo hi off : Int} {offs : Array Int} {len : Nat} {x : Int32} {t : Nat} (d : decode (kCc k) pc = .ok (.tableswitch dflt lo hi offs, len)) (h1 : ¬ x.toInt < lo) (h2 : ¬ hi < x.toInt) (ho : offs[(x.toInt - lo).toNat]? = some off) (ht : (pc : Int) + off = (t : Int)) (h : WS k t lv st ws ce sl) : WS k pc lv (.int x :: st) ws ce sl :=
  fun H locs ls hP hD hS hl => lv_tableIn C.1 C.2.1 d h1 h2 ho ht (h H locs ls hP hD hS hl)
end L1
