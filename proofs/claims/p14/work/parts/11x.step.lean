/-! One step: every row by its instruction -/
def clX (ci : Nat) : Prop := cl_ok ci (nCl ci).2.1 (nCl ci).1 (nCl ci).2.2.1 (nCl ci).2.2.2
def cmN : Jvm.ClassFile.Cond → Nat
  | .eq => 0
  | .ne => 1
  | .lt => 2
  | .ge => 3
  | .gt => 4
  | .le => 5
/-- what is known of a method that is called: its own word, its class -/
def mtX (x : ACx) (Y : Nat → MethodName) (By : Nat → ByteArray) (Rt : Nat → Option FieldType) (Hh : Nat → List (Nat × Nat × Nat × Nat)) (cn n : Nat) : Prop :=
  cdX x Y By Rt Hh cn ∈ gT ∧ Cond.initialized (Y cn).cls ∈ gT ∧ ((Y cn).cls ≠ "java/lang/invoke/MethodHandle" ∧ (Y cn).cls ≠ "java/lang/invoke/VarHandle" ∧ (parseMethodDescriptor (Y cn).desc).map (fun d => d.parameters.length) = some n)
/-- what a row wants, beside its decoding: words of the tables, targets that are places -/
def rowE (x : ACx) (Y : Nat → MethodName) (By : Nat → ByteArray) (Rt : Nat → Option FieldType) (Hh : Nat → List (Nat × Nat × Nat × Nat)) (mn pc : Nat) (i : Instr) (a b : Nat) (z : Int) : Prop :=
  match i with
  | .bipush n => (Int8.ofInt n).toInt32 = Int32.ofInt z
  | .sipush n => (Int16.ofInt n).toInt32 = Int32.ofInt z
  | .ldc idx => Cond.constant (Y mn).cls idx (Int32.ofInt z) ∈ gT
  | .ldc_w idx => Cond.constant (Y mn).cls idx (Int32.ofInt z) ∈ gT
  | .ldc2_w idx => Cond.constantLong (Y mn).cls idx (lN a) ∈ gT
  | .ifCond cc o => 0 ≤ (pc : Int) + o ∧ a = cmN cc ∧ (z = 1 → cc = .eq)
  | .if_icmp cc o => 0 ≤ (pc : Int) + o ∧ a = cmN cc
  | .goto o => 0 ≤ (pc : Int) + o
  | .tableswitch d _ _ offs => 0 ≤ (pc : Int) + d ∧ ∀ (j : Nat) (o : Int), offs[j]? = some o → 0 ≤ (pc : Int) + o
  | .getfield idx => clX a ∧ b < (nCl a).2.1 ∧ Cond.fieldLink (Y mn).cls idx ((nCl a).2.2.1 b).1 ((nCl a).2.2.1 b).2.1 ((nCl a).2.2.1 b).2.2.1 ∈ gT
  | .putfield idx => clX a ∧ Cond.fieldLink (Y mn).cls idx ((nCl a).2.2.1 b).1 ((nCl a).2.2.1 b).2.1 ((nCl a).2.2.1 b).2.2.1 ∈ gT ∧ (((nCl a).2.2.1 b).2.2.2 = false ∨ (((nCl a).2.2.1 b).2.2.2 = true ∧ (Y mn).name = "<init>" ∧ ((nCl a).2.2.1 b).1 = (Y mn).cls))
  | .aastore => clX 0
  | .new idx => (b = 0 ∧ clX a ∧ (∀ f, f < (nCl a).2.1 → nKd a f ≤ 3) ∧ Cond.classLink (Y mn).cls idx (nCl a).1 ∈ gT ∧ Cond.instantiable (nCl a).1 (nCl a).2.1 ∈ gT ∧ Cond.initialized (nCl a).1 ∈ gT) ∨
      (Nat.beq b 0 = false ∧ ∃ (ic is ix : Nat) (rx : ByteArray) (text : String), ex_ok idx ic (exN a) ix rx ∧ (Y mn).cls = RX11 ∧ Hh mn = [] ∧ Cond.stringRef RX11 is text ∈ lw_tbl ∧ decode (By mn) (pc + 3) = .ok (.dup, 1) ∧ ((decode (By mn) (pc + 4) = .ok (.ldc is, 2) ∧ decode (By mn) (pc + 6) = .ok (.invokespecial ic, 3) ∧ decode (By mn) (pc + 9) = .ok (.athrow, 1)) ∨ (decode (By mn) (pc + 4) = .ok (.ldc_w is, 3) ∧ decode (By mn) (pc + 7) = .ok (.invokespecial ic, 3) ∧ decode (By mn) (pc + 10) = .ok (.athrow, 1))))
  | .newarray t => (t = .int ∧ a = 0 ∧ Cond.arrayClass .int ∈ gT) ∨ (t = .long ∧ a = 1 ∧ Cond.arrayClass .long ∈ gT) ∨ (t = .boolean ∧ a = 2 ∧ Cond.arrayClass .boolean ∈ gT)
  | .anewarray idx => Cond.classLink (Y mn).cls idx RX0 ∈ gT
  | .multianewarray idx d => (d = 2 ∧ Cond.classLink (Y mn).cls idx "[[I" ∈ gT ∧ Cond.arrayClass .int ∈ gT) ∨ (d = 3 ∧ Cond.classLink (Y mn).cls idx "[[[I" ∈ gT ∧ Cond.arrayClass .int ∈ gT)
  | .invokevirtual idx => Hh a = [] ∧ Cond.methodLink (Y mn).cls idx (Y a) ∈ gT ∧ Cond.instanceMethod (Y a) ∈ gT ∧ Cond.selects (Y a).cls (Y a) (Y a) ∈ gT ∧ ∃ (n N : Nat) (T : u_T), mtX x Y By Rt Hh a n ∧ mAr (xM x a) = n + 1 ∧ vwCl[mCl (xM x a)]? = some ((Y a).cls, T, N)
  | .invokestatic idx => (b = 5 ∧ Cond.methodLink (Y mn).cls idx arraycopyName ∈ gT ∧ Cond.native arraycopyName ∈ gT ∧ Cond.static arraycopyName ∈ gT ∧ Cond.initialized "java/lang/System" ∈ gT) ∨ (b = 7 ∧ Cond.methodLink (Y mn).cls idx Lib.Math.max.name ∈ gT ∧ Cond.static Lib.Math.max.name ∈ gT ∧ Cond.initialized "java/lang/Math" ∈ gT ∧ Cond.code Lib.Math.max.name Lib.Math.max.code 2 (some .int) ∈ gT) ∨ (b = 8 ∧ Cond.methodLink (Y mn).cls idx Lib.Math.min.name ∈ gT ∧ Cond.static Lib.Math.min.name ∈ gT ∧ Cond.initialized "java/lang/Math" ∈ gT ∧ Cond.code Lib.Math.min.name Lib.Math.min.code 2 (some .int) ∈ gT) ∨
      ((b = 1 ∨ b = 6) ∧ (b = 1 ↔ Hh a = []) ∧ Cond.methodLink (Y mn).cls idx (Y a) ∈ gT ∧ Cond.static (Y a) ∈ gT ∧ mtX x Y By Rt Hh a (mAr (xM x a)))
  | .invokespecial idx => (b = 4 ∧ Cond.methodLink (Y mn).cls idx Lib.objectInit ∈ gT ∧ Cond.instanceMethod Lib.objectInit ∈ gT ∧ Cond.code Lib.objectInit ⟨#[0xb1]⟩ 1 none ∈ gT) ∨
      (Hh a = [] ∧ Rt a = none ∧ (Y a).name = "<init>" ∧ Cond.instanceMethod (Y a) ∈ gT ∧ (∃ n, mtX x Y By Rt Hh a n ∧ mAr (xM x a) = n + 1) ∧ ((b = 2 ∧ Cond.methodLink (Y mn).cls idx (Y a) ∈ gT) ∨ (b = 3 ∧ ∃ host, Cond.methodLinkNest (Y mn).cls idx (Y a) host ∈ lw_tbl)))
  | _ => True
/-- how long an instruction is; 0: any length -/
def iLen : Instr → Nat
  | .bipush _ => 2
  | .sipush _ => 3
  | .ldc _ => 2
  | .ldc_w _ => 3
  | .ldc2_w _ => 3
  | .iload _ => 2
  | .lload _ => 2
  | .aload _ => 2
  | .istore _ => 2
  | .lstore _ => 2
  | .astore _ => 2
  | .iinc _ _ => 3
  | .ifCond _ _ => 3
  | .if_icmp _ _ => 3
  | .goto _ => 3
  | .tableswitch _ _ _ _ => 0
  | .getfield _ => 3
  | .putfield _ => 3
  | .new _ => 3
  | .newarray _ => 2
  | .anewarray _ => 3
  | .multianewarray _ _ => 4
  | .invokevirtual _ => 3
  | .invokestatic _ => 3
  | .invokespecial _ => 3
  | _ => 1
def rowQ (x : ACx) (Y : Nat → MethodName) (By : Nat → ByteArray) (Rt : Nat → Option FieldType) (Hh : Nat → List (Nat × Nat × Nat × Nat)) (mn pc : Nat) (r : ARow) : Prop :=
  decode (By mn) pc = .ok (r.1, r.2.1) ∧ (iLen r.1 = 0 ∨ r.2.1 = iLen r.1) ∧ rowE x Y By Rt Hh mn pc r.1 r.2.2.1 r.2.2.2.1 r.2.2.2.2
/-- all that holds in an activation of mn -/
def MX (k : kx_T) (x : ACx) (mn : Nat) (dT : Nat → ClassId) (w0 : AW) (v0 : VL) (Rs : List AR) (wB : AW) (Y : Nat → MethodName) (By : Nat → ByteArray) (Rt : Nat → Option FieldType) (Hh : Nat → List (Nat × Nat × Nat × Nat)) (a0 : Array Value) : Prop :=
  (kx_ok k ∧ z0_ok (kL k) (kS0 k) a0 (kD k) (kTy k) ∧ rmX k x mn ∧ tyX k dT ∧ (∀ i, scC wB (xB x i)) ∧ wle wB w0 ∧ keX k x mn dT w0 v0 Rs ∧ scrX k x mn w0 v0) ∧
  (rtX k (mRt (xM x mn)) ∧ (∀ pc, exX k x mn pc) ∧ (Hh mn = [] → ∀ z ∈ (kC k).exceptionTable.toList, False) ∧ kCc k = By mn ∧ kOwn k = (Y mn).cls ∧ (kMe k).name = (Y mn).name) ∧
  (va_AO RX0 (kS k) ∧ (Cond.arrayOver (.array .int)).before (kA k) (kS k) = true ∧ (Cond.arrayOver (.array (.array .int))).before (kA k) (kS k) = true)
section SX
variable {k : kx_T} {x : ACx} {mn c : Nat} {dT : Nat → ClassId} {w0 : AW} {v0 : VL} {s : AS} {v : VL} {Rs : List AR} {wB : AW} {Y : Nat → MethodName} {By : Nat → ByteArray} {Rt : Nat → Option FieldType} {Hh : Nat → List (Nat × Nat × Nat × Nat)} {call : Nat → Nat → List AV → AW → Option (List AR)} {a0 : Array Value}
theorem tgt_ok {o : Int} (h : 0 ≤ (sPc s : Int) + o) : (sPc s : Int) + o = (tgt s o : Int) := by
  unfold tgt
  omega
theorem cd_code {cn : Nat} (h : Hh cn = []) (hw : cdX x Y By Rt Hh cn ∈ gT) : Cond.code (Y cn) (By cn) (mNL (xM x cn)) (Rt cn) ∈ gT := by
  unfold cdX at hw
  rw [h] at hw
  exact hw
theorem cd_with {cn : Nat} (h : Hh cn ≠ []) (hw : cdX x Y By Rt Hh cn ∈ gT) : Cond.codeWith (Y cn) (By cn) (mNL (xM x cn)) (Rt cn) (Hh cn) ∈ gT := by
  unfold cdX at hw
  cases hq : Hh cn with
  | nil => exact absurd hq h
  | cons a t => rw [hq] at hw; exact hw
theorem step_ok (M : MX k x mn dT w0 v0 Rs wB Y By Rt Hh a0) (hcall : callX k x mn dT wB w0 v0 Y By Rt Hh call) {r : ARow} (hq : rowQ x Y By Rt Hh mn (sPc s) r) (so : SO k x mn c dT w0 v0 Rs (oF r.1 r.2.2.1 r.2.2.2.1 r.2.2.2.2 x call mn c s)) : GS k x mn c dT w0 v0 s := by
  obtain ⟨i, len, a, b, z⟩ := r
  obtain ⟨hd, hl, he⟩ := hq
  obtain ⟨⟨C, Z, R, T, hB, hB0, qe, X⟩, ⟨hr, hx, hxe, hcc, hown, hnm⟩, hov0, hov1, hov2⟩ := M
  rw [← hcc] at hd
  replace hl : iLen i = 0 ∨ len = iLen i := hl
  replace he : rowE x Y By Rt Hh mn (sPc s) i a b z := he
  replace hd : decode (kCc k) (sPc s) = .ok (i, len) := hd
  replace so : SO k x mn c dT w0 v0 Rs (oF i a b z x call mn c s) := so
  have fin : ∀ n, iLen i = n + 1 → decode (kCc k) (sPc s) = .ok (i, n + 1) := fun n h => by
    rcases hl with q | q
    · rw [q] at h; cases h
    · rw [hd, q, h]
  cases i with
  | iconst n =>
    by_cases hin : inI n = true
    · replace so : SO k x mn c dT w0 v0 Rs ((if inI n = true then fPsh 1 (aI n) else fNo) x call mn c s) := so
      rw [if_pos hin] at so
      exact g_iconst C (fin 0 rfl) so
    · replace so : SO k x mn c dT w0 v0 Rs ((if inI n = true then fPsh 1 (aI n) else fNo) x call mn c s) := so
      rw [if_neg hin] at so
      exact SO_no so
  | bipush n =>
    exact g_bipush C he (fin 1 rfl) so
  | sipush n =>
    exact g_sipush C he (fin 2 rfl) so
  | ldc idx =>
    exact g_ldc C (by rw [hown]; exact he) (fin 1 rfl) so
  | ldc_w idx =>
    exact g_ldcw C (by rw [hown]; exact he) (fin 2 rfl) so
  | ldc2_w idx =>
    exact g_ldc2 C (by rw [hown]; exact he) (fin 2 rfl) so
  | lconst n =>
    exact g_lconst C (fin 0 rfl) so
  | iload_n n =>
    exact g_iload_n C (fin 0 rfl) so
  | iload n =>
    exact g_iload C (fin 1 rfl) so
  | istore_n n =>
    exact g_istore_n C (fin 0 rfl) so
  | istore n =>
    exact g_istore C (fin 1 rfl) so
  | lload_n n =>
    exact g_lload_n C (fin 0 rfl) so
  | lload n =>
    exact g_lload C (fin 1 rfl) so
  | lstore_n n =>
    exact g_lstore_n C (fin 0 rfl) so
  | lstore n =>
    exact g_lstore C (fin 1 rfl) so
  | aload_n n =>
    exact g_aload_n C (fin 0 rfl) so
  | aload n =>
    exact g_aload C (fin 1 rfl) so
  | astore_n n =>
    exact g_astore_n C (fin 0 rfl) so
  | astore n =>
    exact g_astore C (fin 1 rfl) so
  | iinc j n =>
    exact g_iinc C (fin 2 rfl) so
  | iadd =>
    exact g_iadd C (fin 0 rfl) so
  | isub =>
    exact g_isub C (fin 0 rfl) so
  | imul =>
    exact g_imul C (fin 0 rfl) so
  | idiv =>
    exact g_idiv C (fin 0 rfl) so
  | irem =>
    exact g_irem C (fin 0 rfl) so
  | iand =>
    exact g_iand C (fin 0 rfl) so
  | ior =>
    exact g_ior C (fin 0 rfl) so
  | ixor =>
    exact g_ixor C (fin 0 rfl) so
  | ishl =>
    exact g_ishl C (fin 0 rfl) so
  | ishr =>
    exact g_ishr C (fin 0 rfl) so
  | iushr =>
    exact g_iushr C (fin 0 rfl) so
  | ineg =>
    exact g_ineg C (fin 0 rfl) so
  | ladd =>
    exact g_ladd C (fin 0 rfl) so
  | lsub =>
    exact g_lsub C (fin 0 rfl) so
  | land =>
    exact g_land C (fin 0 rfl) so
  | lor =>
    exact g_lor C (fin 0 rfl) so
  | lxor =>
    exact g_lxor C (fin 0 rfl) so
  | lneg =>
    exact g_lneg C (fin 0 rfl) so
  | lshl =>
    exact g_lshl C (fin 0 rfl) so
  | lushr =>
    exact g_lushr C (fin 0 rfl) so
  | lcmp =>
    exact g_lcmp C (fin 0 rfl) so
  | i2l =>
    exact g_i2l C (fin 0 rfl) so
  | l2i =>
    exact g_l2i C (fin 0 rfl) so
  | dup =>
    exact g_dup C (fin 0 rfl) so
  | pop =>
    exact g_pop C (fin 0 rfl) so
  | dup2 =>
    exact g_dup2 C (fin 0 rfl) so
  | ifCond cc o =>
    obtain ⟨h1, h2, h3⟩ := he
    have ht := tgt_ok h1
    replace so : SO k x mn c dT w0 v0 Rs ((if z = 1 then fIfs a o else fIf a o) x call mn c s) := so
    by_cases hz : z = 1
    · have hc := h3 hz
      subst hc
      subst h2
      rw [if_pos hz] at so
      exact g_ifs C (fin 2 rfl) ht so
    · rw [if_neg hz] at so
      subst h2
      cases cc with
      | eq => exact g_if_eq C (fin 2 rfl) ht so
      | ne => exact g_if_ne C (fin 2 rfl) ht so
      | lt => exact g_if_lt C (fin 2 rfl) ht so
      | ge => exact g_if_ge C (fin 2 rfl) ht so
      | gt => exact g_if_gt C (fin 2 rfl) ht so
      | le => exact g_if_le C (fin 2 rfl) ht so
  | if_icmp cc o =>
    obtain ⟨h1, h2⟩ := he
    have ht := tgt_ok h1
    subst h2
    cases cc with
    | eq => exact g_icmp_eq C (fin 2 rfl) ht so
    | ne => exact g_icmp_ne C (fin 2 rfl) ht so
    | lt => exact g_icmp_lt C (fin 2 rfl) ht so
    | ge => exact g_icmp_ge C (fin 2 rfl) ht so
    | gt => exact g_icmp_gt C (fin 2 rfl) ht so
    | le => exact g_icmp_le C (fin 2 rfl) ht so
  | goto o =>
    exact g_goto C hB hB0 (fin 2 rfl) (tgt_ok he) so
  | tableswitch d lo hi offs =>
    exact g_switch C hd he.1 he.2 so
  | getfield idx =>
    exact g_get C he.1 he.2.1 (by rw [hown]; exact he.2.2) (fin 2 rfl) so
  | putfield idx =>
    exact g_put C he.1 (by rw [hown]; exact he.2.1) (by rw [hown, hnm]; exact he.2.2) (fin 2 rfl) so
  | iaload =>
    exact g_iald C T X (fin 0 rfl) so
  | baload =>
    exact g_baload C T (fin 0 rfl) so
  | laload =>
    exact g_laload C T (fin 0 rfl) so
  | aaload =>
    exact g_aaload C T (fin 0 rfl) so
  | iastore =>
    exact g_iastore C T (fin 0 rfl) so
  | bastore =>
    exact g_bastore C T (fin 0 rfl) so
  | lastore =>
    exact g_lastore C T (fin 0 rfl) so
  | aastore =>
    exact g_aast C T he (fin 0 rfl) so
  | arraylength =>
    exact g_aln C T X (fin 0 rfl) so
  | new idx =>
    rcases he with ⟨h0, h1, h2, h3, h4, h5⟩ | ⟨h0, ic, is, ix, rx, text, h1, h2, h3, h4, d3, ⟨d4, d6, d9⟩ | ⟨d4, d6, d9⟩⟩
    · subst h0
      exact g_new C R h1 h2 (by rw [hown]; exact h3) h4 h5 (fin 2 rfl) so
    · rw [← hcc] at d3 d4 d6 d9
      exact g_throw C Z R qe h1 (hown.trans h2) h4 (hxe h3) (fin 2 rfl) d3 d4 d6 d9 h0 so
    · rw [← hcc] at d3 d4 d6 d9
      exact g_throwW C Z R qe h1 (hown.trans h2) h4 (hxe h3) (fin 2 rfl) d3 d4 d6 d9 h0 so
  | newarray t =>
    rcases he with ⟨h1, h2, h3⟩ | ⟨h1, h2, h3⟩ | ⟨h1, h2, h3⟩
    · subst h1; subst h2; exact g_newI C R T h3 (fin 1 rfl) so
    · subst h1; subst h2; exact g_newL C R T h3 (fin 1 rfl) so
    · subst h1; subst h2; exact g_newZ C R T h3 (fin 1 rfl) so
  | anewarray idx =>
    exact g_newq C R T (by rw [hown]; exact he) hov0 (fin 2 rfl) so
  | multianewarray idx d =>
    rcases he with ⟨h1, h2, h3⟩ | ⟨h1, h2, h3⟩
    · subst h1; exact g_mn2 C R T (by rw [hown]; exact h2) hov1 h3 (fin 3 rfl) so
    · subst h1; exact g_mn3 C R T (by rw [hown]; exact h2) hov2 hov1 h3 (fin 3 rfl) so
  | invokevirtual idx =>
    obtain ⟨h0, h1, h2, h3, n, N, T', ⟨m1, m2, m3⟩, h5, h6⟩ := he
    exact g_callV C R hB hB0 hcall qe (hx _) h0 (by rw [hown]; exact h1) (cd_code h0 m1) m2 m3 h2 h3 h5 h6 (fin 2 rfl) so
  | invokestatic idx =>
    rcases he with ⟨h0, h1, h2, h3, h4⟩ | ⟨h0, h1, h2, h3, h4⟩ | ⟨h0, h1, h2, h3, h4⟩ | ⟨h0, h1, h2, h3, m1, m2, m3⟩
    · subst h0; exact g_copy C R T (by rw [hown]; exact h1) h2 h3 h4 (fin 2 rfl) so
    · subst h0; exact g_mmax C R (by rw [hown]; exact h1) h2 h3 h4 (fin 2 rfl) so
    · subst h0; exact g_mmin C R (by rw [hown]; exact h1) h2 h3 h4 (fin 2 rfl) so
    · rcases h0 with h0 | h0
      · subst h0
        exact g_callS C R hB hB0 hcall qe (hx _) (h1.mp rfl) (by rw [hown]; exact h2) (cd_code (h1.mp rfl) m1) m2 m3 h3 (fin 2 rfl) so
      · subst h0
        have hn : Hh a ≠ [] := fun q => absurd (h1.mpr q) (by decide)
        exact g_callSX C R hB hB0 hcall qe (hx _) hn (by rw [hown]; exact h2) (cd_with hn m1) m2 m3 h3 (fin 2 rfl) so
  | invokespecial idx =>
    rcases he with ⟨h0, h1, h2, h3⟩ | ⟨h0, h1, h2, h3, ⟨n, ⟨m1, m2, m3⟩, h4⟩, h5⟩
    · subst h0
      exact g_objInit C (by rw [hown]; exact h1) h2 h3 R.1 R.2.1 (fin 2 rfl) (a := a) rfl so
    · rcases h5 with ⟨h5, h6⟩ | ⟨h5, host, h6⟩
      · subst h5
        exact g_callI C R hB hB0 hcall qe (hx _) h0 h1 h2 (by rw [hown]; exact h6) (cd_code h0 m1) m2 m3 h3 h4 (fin 2 rfl) so
      · subst h5
        exact g_callIN C Z R hB hB0 hcall qe (hx _) (host := host) h0 h1 h2 (by rw [hown]; exact h6) (cd_code h0 m1) m2 m3 h3 h4 (fin 2 rfl) so
  | ireturn =>
    exact g_iret C qe hr (fin 0 rfl) so
  | lreturn =>
    exact g_lret C qe hr (fin 0 rfl) so
  | return_ =>
    exact g_vret C qe hr (fin 0 rfl) so
  | _ => exact SO_no so
/-- the rows' doings are those of the rows -/
def cfX (cf : Nat → Nat → Option AF) (x : ACx) : Prop := ∀ mn pc f, cf mn pc = some f → ∃ r, xCd x mn pc = some r ∧ f = rowF r
/-- a run that stops at given states -/
noncomputable def oSeg (stop : AS → Bool) (cf : Nat → Nat → Option AF) (x : ACx) (call : Nat → Nat → List AV → AW → Option (List AR)) (mn c : Nat) : Nat → List AS → List AR → Option (List AR) :=
  fun n => Nat.rec (motive := fun _ => List AS → List AR → Option (List AR)) (fun _ _ => none) (fun _ ih ws o => match ws with
    | [] => some o
    | s :: q => match stop s with
      | true => ih q o
      | false => match oStep cf x call mn c s with
        | some (ss, rs) => ih (ss ++ q) (rs ++ o)
        | none => none) n
theorem seg_ok {stop : AS → Bool} {cf : Nat → Nat → Option AF} (hstop : ∀ s, stop s = true → GS k x mn c dT w0 v0 s) (hcf : cfX cf x) (M : MX k x mn dT w0 v0 Rs wB Y By Rt Hh a0) (hcall : callX k x mn dT wB w0 v0 Y By Rt Hh call) (hrow : ∀ pc r, xCd x mn pc = some r → rowQ x Y By Rt Hh mn pc r) : ∀ (n : Nat) (ws : List AS) (o rs : List AR), oSeg stop cf x call mn c n ws o = some rs → (∀ r ∈ rs, r ∈ Rs) → (∀ s ∈ ws, GS k x mn c dT w0 v0 s) ∧ ∀ r ∈ o, r ∈ Rs
  | 0, ws, o, rs, h, _ => by cases h
  | n + 1, [], o, rs, h, hR => by
    cases h
    exact ⟨fun s hs => absurd hs List.not_mem_nil, hR⟩
  | n + 1, s :: q, o, rs, h, hR => by
    replace h : (match stop s with
      | true => oSeg stop cf x call mn c n q o
      | false => match oStep cf x call mn c s with
        | some (ss, e) => oSeg stop cf x call mn c n (ss ++ q) (e ++ o)
        | none => none) = some rs := h
    cases hst : stop s with
    | true =>
      rw [hst] at h
      obtain ⟨h1, h2⟩ := seg_ok hstop hcf M hcall hrow n _ _ rs h hR
      refine ⟨fun t ht => ?_, h2⟩
      rcases List.mem_cons.mp ht with et | et
      · subst et; exact hstop _ hst
      · exact h1 t et
    | false =>
    rw [hst] at h
    replace h : (match oStep cf x call mn c s with
        | some (ss, e) => oSeg stop cf x call mn c n (ss ++ q) (e ++ o)
        | none => none) = some rs := h
    cases hs : oStep cf x call mn c s with
    | none => rw [hs] at h; cases h
    | some p =>
      obtain ⟨ss, e⟩ := p
      rw [hs] at h
      obtain ⟨h1, h2⟩ := seg_ok hstop hcf M hcall hrow n _ _ rs h hR
      unfold oStep at hs
      refine ⟨fun t ht => ?_, fun r hr => h2 r (List.mem_append_right _ hr)⟩
      rcases List.mem_cons.mp ht with et | et
      · subst et
        cases hc : cf mn (sPc t) with
        | none => rw [hc] at hs; cases hs
        | some f =>
          rw [hc] at hs
          obtain ⟨r, hr, ef⟩ := hcf _ _ _ hc
          subst ef
          exact step_ok M hcall (hrow _ r hr) ⟨ss, e, hs, fun t ht => h1 t (List.mem_append_left _ ht), fun r hr => h2 r (List.mem_append_left _ hr)⟩
      · exact h1 t (List.mem_append_right _ et)
theorem run_ok {cf : Nat → Nat → Option AF} (hcf : cfX cf x) (M : MX k x mn dT w0 v0 Rs wB Y By Rt Hh a0) (hcall : callX k x mn dT wB w0 v0 Y By Rt Hh call) (hrow : ∀ pc r, xCd x mn pc = some r → rowQ x Y By Rt Hh mn pc r) : ∀ (n : Nat) (ws : List AS) (o rs : List AR), oLoop cf x call mn c n ws o = some rs → (∀ r ∈ rs, r ∈ Rs) → (∀ s ∈ ws, GS k x mn c dT w0 v0 s) ∧ ∀ r ∈ o, r ∈ Rs
  | 0, ws, o, rs, h, _ => by cases h
  | n + 1, [], o, rs, h, hR => by
    cases h
    exact ⟨fun s hs => absurd hs List.not_mem_nil, hR⟩
  | n + 1, s :: q, o, rs, h, hR => by
    replace h : (match oStep cf x call mn c s with
      | some (ss, e) => oLoop cf x call mn c n (ss ++ q) (e ++ o)
      | none => none) = some rs := h
    cases hs : oStep cf x call mn c s with
    | none => rw [hs] at h; cases h
    | some p =>
      obtain ⟨ss, e⟩ := p
      rw [hs] at h
      obtain ⟨h1, h2⟩ := run_ok hcf M hcall hrow n _ _ rs h hR
      unfold oStep at hs
      refine ⟨fun t ht => ?_, fun r hr => h2 r (List.mem_append_right _ hr)⟩
      rcases List.mem_cons.mp ht with et | et
      · subst et
        cases hc : cf mn (sPc t) with
        | none => rw [hc] at hs; cases hs
        | some f =>
          rw [hc] at hs
          obtain ⟨r, hr, ef⟩ := hcf _ _ _ hc
          subst ef
          exact step_ok M hcall (hrow _ r hr) ⟨ss, e, hs, fun t ht => h1 t (List.mem_append_left _ ht), fun r hr => h2 r (List.mem_append_left _ hr)⟩
      · exact h1 t (List.mem_append_right _ et)
end SX
