/-! Decoding by bytes: a lemma an opcode -/
abbrev DcR (α : Type) : Type := Jvm.ClassFile.Decoder α
def rdB (code : ByteArray) (p b : Nat) : Prop := ∃ h : p < code.size, code[p].toNat = b
theorem u1_at {code : ByteArray} {p b : Nat} (h : rdB code p b) : (ReaderT.run (Jvm.ClassFile.Reader.u1 : DcR Nat) code).run p = .ok (b, p + 1) := by
  obtain ⟨h1, h2⟩ := h
  subst h2
  show (if h : p < code.size then _ else _ : DcR Nat) code p = _
  rw [dif_pos h1]
  rfl
theorem rd_bind {α β : Type} {m : DcR α} {f : α → DcR β} {code : ByteArray} {p p' : Nat} {a : α} (h : (ReaderT.run m code).run p = .ok (a, p')) : (ReaderT.run (m >>= f) code).run p = (ReaderT.run (f a) code).run p' := by
  show ((ReaderT.run m code).run p >>= fun q => (ReaderT.run (f q.1) code).run q.2) = _
  rw [h]
  rfl
theorem u2_at {code : ByteArray} {p a b : Nat} (h : rdB code p a) (h1 : rdB code (p + 1) b) : (ReaderT.run (Jvm.ClassFile.Reader.u2 : DcR Nat) code).run p = .ok (a * 256 + b, p + 2) := by
  unfold Jvm.ClassFile.Reader.u2
  exact ((rd_bind (u1_at h)).trans (rd_bind (u1_at h1))).trans rfl
theorem s1_at {code : ByteArray} {p a : Nat} (h : rdB code p a) : (ReaderT.run (Jvm.ClassFile.Reader.s1 : DcR Int) code).run p = .ok (Jvm.ClassFile.Reader.signed 8 a, p + 1) := by
  show ((fun r : Nat × Nat => (Jvm.ClassFile.Reader.signed 8 r.1, r.2)) <$> (ReaderT.run (Jvm.ClassFile.Reader.u1 : DcR Nat) code).run p) = _
  rw [u1_at h]
  rfl
theorem s2_at {code : ByteArray} {p a b : Nat} (h : rdB code p a) (h1 : rdB code (p + 1) b) : (ReaderT.run (Jvm.ClassFile.Reader.s2 : DcR Int) code).run p = .ok (Jvm.ClassFile.Reader.signed 16 (a * 256 + b), p + 2) := by
  show ((fun r : Nat × Nat => (Jvm.ClassFile.Reader.signed 16 r.1, r.2)) <$> (ReaderT.run (Jvm.ClassFile.Reader.u2 : DcR Nat) code).run p) = _
  rw [u2_at h h1]
  rfl
theorem dec_of {code : ByteArray} {pc n : Nat} {i : Instr} (h : (ReaderT.run (Jvm.ClassFile.Decoder.instr pc) code).run pc = .ok (i, pc + n)) : decode code pc = .ok (i, n) := by
  unfold decode Jvm.ClassFile.Reader.runAt
  rw [h]
  show Except.ok (i, pc + n - pc) = _
  rw [Nat.add_sub_cancel_left]
/-- the bytes from pc on -/
def rdL (code : ByteArray) (pc : Nat) (bs : List Nat) : Prop := ∀ (j b : Nat), bs[j]? = some b → rdB code (pc + j) b
theorem sg16 {o : Int} (h1 : -32768 ≤ o) (h2 : o < 32768) : Jvm.ClassFile.Reader.signed 16 ((o % 65536).toNat / 256 * 256 + (o % 65536).toNat % 256) = o := by
  have : (o % 65536).toNat / 256 * 256 + (o % 65536).toNat % 256 = (o % 65536).toNat := by omega
  rw [this]
  unfold Jvm.ClassFile.Reader.signed
  split
  · rename_i h
    have : (2 : Nat) ^ (16 - 1) = 32768 := by decide
    omega
  · rename_i h
    have e1 : (2 : Nat) ^ (16 - 1) = 32768 := by decide
    have e2 : ((2 ^ 16 : Nat) : Int) = 65536 := by decide
    omega
theorem sg8 {o : Int} (h1 : -128 ≤ o) (h2 : o < 128) : Jvm.ClassFile.Reader.signed 8 (o % 256).toNat = o := by
  unfold Jvm.ClassFile.Reader.signed
  split
  · rename_i h
    have : (2 : Nat) ^ (8 - 1) = 128 := by decide
    omega
  · rename_i h
    have e1 : (2 : Nat) ^ (8 - 1) = 128 := by decide
    have e2 : ((2 ^ 8 : Nat) : Int) = 256 := by decide
    omega
theorem dm256 (n : Nat) : n / 256 * 256 + n % 256 = n := by omega
section DD
variable {code : ByteArray} {pc a b : Nat}
theorem dd_46 (h : rdB code pc 46) : (ReaderT.run (Jvm.ClassFile.Decoder.instr pc) code).run pc = .ok (.iaload, pc + 1) := by
  unfold Jvm.ClassFile.Decoder.instr
  exact (rd_bind (u1_at h)).trans rfl
theorem dd_47 (h : rdB code pc 47) : (ReaderT.run (Jvm.ClassFile.Decoder.instr pc) code).run pc = .ok (.laload, pc + 1) := by
  unfold Jvm.ClassFile.Decoder.instr
  exact (rd_bind (u1_at h)).trans rfl
theorem dd_50 (h : rdB code pc 50) : (ReaderT.run (Jvm.ClassFile.Decoder.instr pc) code).run pc = .ok (.aaload, pc + 1) := by
  unfold Jvm.ClassFile.Decoder.instr
  exact (rd_bind (u1_at h)).trans rfl
theorem dd_51 (h : rdB code pc 51) : (ReaderT.run (Jvm.ClassFile.Decoder.instr pc) code).run pc = .ok (.baload, pc + 1) := by
  unfold Jvm.ClassFile.Decoder.instr
  exact (rd_bind (u1_at h)).trans rfl
theorem dd_79 (h : rdB code pc 79) : (ReaderT.run (Jvm.ClassFile.Decoder.instr pc) code).run pc = .ok (.iastore, pc + 1) := by
  unfold Jvm.ClassFile.Decoder.instr
  exact (rd_bind (u1_at h)).trans rfl
theorem dd_80 (h : rdB code pc 80) : (ReaderT.run (Jvm.ClassFile.Decoder.instr pc) code).run pc = .ok (.lastore, pc + 1) := by
  unfold Jvm.ClassFile.Decoder.instr
  exact (rd_bind (u1_at h)).trans rfl
theorem dd_83 (h : rdB code pc 83) : (ReaderT.run (Jvm.ClassFile.Decoder.instr pc) code).run pc = .ok (.aastore, pc + 1) := by
  unfold Jvm.ClassFile.Decoder.instr
  exact (rd_bind (u1_at h)).trans rfl
theorem dd_84 (h : rdB code pc 84) : (ReaderT.run (Jvm.ClassFile.Decoder.instr pc) code).run pc = .ok (.bastore, pc + 1) := by
  unfold Jvm.ClassFile.Decoder.instr
  exact (rd_bind (u1_at h)).trans rfl
theorem dd_87 (h : rdB code pc 87) : (ReaderT.run (Jvm.ClassFile.Decoder.instr pc) code).run pc = .ok (.pop, pc + 1) := by
  unfold Jvm.ClassFile.Decoder.instr
  exact (rd_bind (u1_at h)).trans rfl
theorem dd_89 (h : rdB code pc 89) : (ReaderT.run (Jvm.ClassFile.Decoder.instr pc) code).run pc = .ok (.dup, pc + 1) := by
  unfold Jvm.ClassFile.Decoder.instr
  exact (rd_bind (u1_at h)).trans rfl
theorem dd_92 (h : rdB code pc 92) : (ReaderT.run (Jvm.ClassFile.Decoder.instr pc) code).run pc = .ok (.dup2, pc + 1) := by
  unfold Jvm.ClassFile.Decoder.instr
  exact (rd_bind (u1_at h)).trans rfl
theorem dd_96 (h : rdB code pc 96) : (ReaderT.run (Jvm.ClassFile.Decoder.instr pc) code).run pc = .ok (.iadd, pc + 1) := by
  unfold Jvm.ClassFile.Decoder.instr
  exact (rd_bind (u1_at h)).trans rfl
theorem dd_97 (h : rdB code pc 97) : (ReaderT.run (Jvm.ClassFile.Decoder.instr pc) code).run pc = .ok (.ladd, pc + 1) := by
  unfold Jvm.ClassFile.Decoder.instr
  exact (rd_bind (u1_at h)).trans rfl
theorem dd_100 (h : rdB code pc 100) : (ReaderT.run (Jvm.ClassFile.Decoder.instr pc) code).run pc = .ok (.isub, pc + 1) := by
  unfold Jvm.ClassFile.Decoder.instr
  exact (rd_bind (u1_at h)).trans rfl
theorem dd_101 (h : rdB code pc 101) : (ReaderT.run (Jvm.ClassFile.Decoder.instr pc) code).run pc = .ok (.lsub, pc + 1) := by
  unfold Jvm.ClassFile.Decoder.instr
  exact (rd_bind (u1_at h)).trans rfl
theorem dd_104 (h : rdB code pc 104) : (ReaderT.run (Jvm.ClassFile.Decoder.instr pc) code).run pc = .ok (.imul, pc + 1) := by
  unfold Jvm.ClassFile.Decoder.instr
  exact (rd_bind (u1_at h)).trans rfl
theorem dd_108 (h : rdB code pc 108) : (ReaderT.run (Jvm.ClassFile.Decoder.instr pc) code).run pc = .ok (.idiv, pc + 1) := by
  unfold Jvm.ClassFile.Decoder.instr
  exact (rd_bind (u1_at h)).trans rfl
theorem dd_112 (h : rdB code pc 112) : (ReaderT.run (Jvm.ClassFile.Decoder.instr pc) code).run pc = .ok (.irem, pc + 1) := by
  unfold Jvm.ClassFile.Decoder.instr
  exact (rd_bind (u1_at h)).trans rfl
theorem dd_116 (h : rdB code pc 116) : (ReaderT.run (Jvm.ClassFile.Decoder.instr pc) code).run pc = .ok (.ineg, pc + 1) := by
  unfold Jvm.ClassFile.Decoder.instr
  exact (rd_bind (u1_at h)).trans rfl
theorem dd_117 (h : rdB code pc 117) : (ReaderT.run (Jvm.ClassFile.Decoder.instr pc) code).run pc = .ok (.lneg, pc + 1) := by
  unfold Jvm.ClassFile.Decoder.instr
  exact (rd_bind (u1_at h)).trans rfl
theorem dd_120 (h : rdB code pc 120) : (ReaderT.run (Jvm.ClassFile.Decoder.instr pc) code).run pc = .ok (.ishl, pc + 1) := by
  unfold Jvm.ClassFile.Decoder.instr
  exact (rd_bind (u1_at h)).trans rfl
theorem dd_121 (h : rdB code pc 121) : (ReaderT.run (Jvm.ClassFile.Decoder.instr pc) code).run pc = .ok (.lshl, pc + 1) := by
  unfold Jvm.ClassFile.Decoder.instr
  exact (rd_bind (u1_at h)).trans rfl
theorem dd_122 (h : rdB code pc 122) : (ReaderT.run (Jvm.ClassFile.Decoder.instr pc) code).run pc = .ok (.ishr, pc + 1) := by
  unfold Jvm.ClassFile.Decoder.instr
  exact (rd_bind (u1_at h)).trans rfl
theorem dd_124 (h : rdB code pc 124) : (ReaderT.run (Jvm.ClassFile.Decoder.instr pc) code).run pc = .ok (.iushr, pc + 1) := by
  unfold Jvm.ClassFile.Decoder.instr
  exact (rd_bind (u1_at h)).trans rfl
theorem dd_125 (h : rdB code pc 125) : (ReaderT.run (Jvm.ClassFile.Decoder.instr pc) code).run pc = .ok (.lushr, pc + 1) := by
  unfold Jvm.ClassFile.Decoder.instr
  exact (rd_bind (u1_at h)).trans rfl
theorem dd_126 (h : rdB code pc 126) : (ReaderT.run (Jvm.ClassFile.Decoder.instr pc) code).run pc = .ok (.iand, pc + 1) := by
  unfold Jvm.ClassFile.Decoder.instr
  exact (rd_bind (u1_at h)).trans rfl
theorem dd_127 (h : rdB code pc 127) : (ReaderT.run (Jvm.ClassFile.Decoder.instr pc) code).run pc = .ok (.land, pc + 1) := by
  unfold Jvm.ClassFile.Decoder.instr
  exact (rd_bind (u1_at h)).trans rfl
theorem dd_128 (h : rdB code pc 128) : (ReaderT.run (Jvm.ClassFile.Decoder.instr pc) code).run pc = .ok (.ior, pc + 1) := by
  unfold Jvm.ClassFile.Decoder.instr
  exact (rd_bind (u1_at h)).trans rfl
theorem dd_129 (h : rdB code pc 129) : (ReaderT.run (Jvm.ClassFile.Decoder.instr pc) code).run pc = .ok (.lor, pc + 1) := by
  unfold Jvm.ClassFile.Decoder.instr
  exact (rd_bind (u1_at h)).trans rfl
theorem dd_130 (h : rdB code pc 130) : (ReaderT.run (Jvm.ClassFile.Decoder.instr pc) code).run pc = .ok (.ixor, pc + 1) := by
  unfold Jvm.ClassFile.Decoder.instr
  exact (rd_bind (u1_at h)).trans rfl
theorem dd_131 (h : rdB code pc 131) : (ReaderT.run (Jvm.ClassFile.Decoder.instr pc) code).run pc = .ok (.lxor, pc + 1) := by
  unfold Jvm.ClassFile.Decoder.instr
  exact (rd_bind (u1_at h)).trans rfl
theorem dd_133 (h : rdB code pc 133) : (ReaderT.run (Jvm.ClassFile.Decoder.instr pc) code).run pc = .ok (.i2l, pc + 1) := by
  unfold Jvm.ClassFile.Decoder.instr
  exact (rd_bind (u1_at h)).trans rfl
theorem dd_136 (h : rdB code pc 136) : (ReaderT.run (Jvm.ClassFile.Decoder.instr pc) code).run pc = .ok (.l2i, pc + 1) := by
  unfold Jvm.ClassFile.Decoder.instr
  exact (rd_bind (u1_at h)).trans rfl
theorem dd_148 (h : rdB code pc 148) : (ReaderT.run (Jvm.ClassFile.Decoder.instr pc) code).run pc = .ok (.lcmp, pc + 1) := by
  unfold Jvm.ClassFile.Decoder.instr
  exact (rd_bind (u1_at h)).trans rfl
theorem dd_172 (h : rdB code pc 172) : (ReaderT.run (Jvm.ClassFile.Decoder.instr pc) code).run pc = .ok (.ireturn, pc + 1) := by
  unfold Jvm.ClassFile.Decoder.instr
  exact (rd_bind (u1_at h)).trans rfl
theorem dd_173 (h : rdB code pc 173) : (ReaderT.run (Jvm.ClassFile.Decoder.instr pc) code).run pc = .ok (.lreturn, pc + 1) := by
  unfold Jvm.ClassFile.Decoder.instr
  exact (rd_bind (u1_at h)).trans rfl
theorem dd_177 (h : rdB code pc 177) : (ReaderT.run (Jvm.ClassFile.Decoder.instr pc) code).run pc = .ok (.return_, pc + 1) := by
  unfold Jvm.ClassFile.Decoder.instr
  exact (rd_bind (u1_at h)).trans rfl
theorem dd_190 (h : rdB code pc 190) : (ReaderT.run (Jvm.ClassFile.Decoder.instr pc) code).run pc = .ok (.arraylength, pc + 1) := by
  unfold Jvm.ClassFile.Decoder.instr
  exact (rd_bind (u1_at h)).trans rfl
theorem dd_26 (h : rdB code pc 26) : (ReaderT.run (Jvm.ClassFile.Decoder.instr pc) code).run pc = .ok (.iload_n 0, pc + 1) := by
  unfold Jvm.ClassFile.Decoder.instr
  exact (rd_bind (u1_at h)).trans rfl
theorem dd_27 (h : rdB code pc 27) : (ReaderT.run (Jvm.ClassFile.Decoder.instr pc) code).run pc = .ok (.iload_n 1, pc + 1) := by
  unfold Jvm.ClassFile.Decoder.instr
  exact (rd_bind (u1_at h)).trans rfl
theorem dd_28 (h : rdB code pc 28) : (ReaderT.run (Jvm.ClassFile.Decoder.instr pc) code).run pc = .ok (.iload_n 2, pc + 1) := by
  unfold Jvm.ClassFile.Decoder.instr
  exact (rd_bind (u1_at h)).trans rfl
theorem dd_29 (h : rdB code pc 29) : (ReaderT.run (Jvm.ClassFile.Decoder.instr pc) code).run pc = .ok (.iload_n 3, pc + 1) := by
  unfold Jvm.ClassFile.Decoder.instr
  exact (rd_bind (u1_at h)).trans rfl
theorem dd_30 (h : rdB code pc 30) : (ReaderT.run (Jvm.ClassFile.Decoder.instr pc) code).run pc = .ok (.lload_n 0, pc + 1) := by
  unfold Jvm.ClassFile.Decoder.instr
  exact (rd_bind (u1_at h)).trans rfl
theorem dd_31 (h : rdB code pc 31) : (ReaderT.run (Jvm.ClassFile.Decoder.instr pc) code).run pc = .ok (.lload_n 1, pc + 1) := by
  unfold Jvm.ClassFile.Decoder.instr
  exact (rd_bind (u1_at h)).trans rfl
theorem dd_32 (h : rdB code pc 32) : (ReaderT.run (Jvm.ClassFile.Decoder.instr pc) code).run pc = .ok (.lload_n 2, pc + 1) := by
  unfold Jvm.ClassFile.Decoder.instr
  exact (rd_bind (u1_at h)).trans rfl
theorem dd_33 (h : rdB code pc 33) : (ReaderT.run (Jvm.ClassFile.Decoder.instr pc) code).run pc = .ok (.lload_n 3, pc + 1) := by
  unfold Jvm.ClassFile.Decoder.instr
  exact (rd_bind (u1_at h)).trans rfl
theorem dd_42 (h : rdB code pc 42) : (ReaderT.run (Jvm.ClassFile.Decoder.instr pc) code).run pc = .ok (.aload_n 0, pc + 1) := by
  unfold Jvm.ClassFile.Decoder.instr
  exact (rd_bind (u1_at h)).trans rfl
theorem dd_43 (h : rdB code pc 43) : (ReaderT.run (Jvm.ClassFile.Decoder.instr pc) code).run pc = .ok (.aload_n 1, pc + 1) := by
  unfold Jvm.ClassFile.Decoder.instr
  exact (rd_bind (u1_at h)).trans rfl
theorem dd_44 (h : rdB code pc 44) : (ReaderT.run (Jvm.ClassFile.Decoder.instr pc) code).run pc = .ok (.aload_n 2, pc + 1) := by
  unfold Jvm.ClassFile.Decoder.instr
  exact (rd_bind (u1_at h)).trans rfl
theorem dd_45 (h : rdB code pc 45) : (ReaderT.run (Jvm.ClassFile.Decoder.instr pc) code).run pc = .ok (.aload_n 3, pc + 1) := by
  unfold Jvm.ClassFile.Decoder.instr
  exact (rd_bind (u1_at h)).trans rfl
theorem dd_59 (h : rdB code pc 59) : (ReaderT.run (Jvm.ClassFile.Decoder.instr pc) code).run pc = .ok (.istore_n 0, pc + 1) := by
  unfold Jvm.ClassFile.Decoder.instr
  exact (rd_bind (u1_at h)).trans rfl
theorem dd_60 (h : rdB code pc 60) : (ReaderT.run (Jvm.ClassFile.Decoder.instr pc) code).run pc = .ok (.istore_n 1, pc + 1) := by
  unfold Jvm.ClassFile.Decoder.instr
  exact (rd_bind (u1_at h)).trans rfl
theorem dd_61 (h : rdB code pc 61) : (ReaderT.run (Jvm.ClassFile.Decoder.instr pc) code).run pc = .ok (.istore_n 2, pc + 1) := by
  unfold Jvm.ClassFile.Decoder.instr
  exact (rd_bind (u1_at h)).trans rfl
theorem dd_62 (h : rdB code pc 62) : (ReaderT.run (Jvm.ClassFile.Decoder.instr pc) code).run pc = .ok (.istore_n 3, pc + 1) := by
  unfold Jvm.ClassFile.Decoder.instr
  exact (rd_bind (u1_at h)).trans rfl
theorem dd_63 (h : rdB code pc 63) : (ReaderT.run (Jvm.ClassFile.Decoder.instr pc) code).run pc = .ok (.lstore_n 0, pc + 1) := by
  unfold Jvm.ClassFile.Decoder.instr
  exact (rd_bind (u1_at h)).trans rfl
theorem dd_64 (h : rdB code pc 64) : (ReaderT.run (Jvm.ClassFile.Decoder.instr pc) code).run pc = .ok (.lstore_n 1, pc + 1) := by
  unfold Jvm.ClassFile.Decoder.instr
  exact (rd_bind (u1_at h)).trans rfl
theorem dd_65 (h : rdB code pc 65) : (ReaderT.run (Jvm.ClassFile.Decoder.instr pc) code).run pc = .ok (.lstore_n 2, pc + 1) := by
  unfold Jvm.ClassFile.Decoder.instr
  exact (rd_bind (u1_at h)).trans rfl
theorem dd_66 (h : rdB code pc 66) : (ReaderT.run (Jvm.ClassFile.Decoder.instr pc) code).run pc = .ok (.lstore_n 3, pc + 1) := by
  unfold Jvm.ClassFile.Decoder.instr
  exact (rd_bind (u1_at h)).trans rfl
theorem dd_75 (h : rdB code pc 75) : (ReaderT.run (Jvm.ClassFile.Decoder.instr pc) code).run pc = .ok (.astore_n 0, pc + 1) := by
  unfold Jvm.ClassFile.Decoder.instr
  exact (rd_bind (u1_at h)).trans rfl
theorem dd_76 (h : rdB code pc 76) : (ReaderT.run (Jvm.ClassFile.Decoder.instr pc) code).run pc = .ok (.astore_n 1, pc + 1) := by
  unfold Jvm.ClassFile.Decoder.instr
  exact (rd_bind (u1_at h)).trans rfl
theorem dd_77 (h : rdB code pc 77) : (ReaderT.run (Jvm.ClassFile.Decoder.instr pc) code).run pc = .ok (.astore_n 2, pc + 1) := by
  unfold Jvm.ClassFile.Decoder.instr
  exact (rd_bind (u1_at h)).trans rfl
theorem dd_78 (h : rdB code pc 78) : (ReaderT.run (Jvm.ClassFile.Decoder.instr pc) code).run pc = .ok (.astore_n 3, pc + 1) := by
  unfold Jvm.ClassFile.Decoder.instr
  exact (rd_bind (u1_at h)).trans rfl
theorem dd_2 (h : rdB code pc 2) : (ReaderT.run (Jvm.ClassFile.Decoder.instr pc) code).run pc = .ok (.iconst (-1), pc + 1) := by
  unfold Jvm.ClassFile.Decoder.instr
  exact (rd_bind (u1_at h)).trans rfl
theorem dd_3 (h : rdB code pc 3) : (ReaderT.run (Jvm.ClassFile.Decoder.instr pc) code).run pc = .ok (.iconst 0, pc + 1) := by
  unfold Jvm.ClassFile.Decoder.instr
  exact (rd_bind (u1_at h)).trans rfl
theorem dd_4 (h : rdB code pc 4) : (ReaderT.run (Jvm.ClassFile.Decoder.instr pc) code).run pc = .ok (.iconst 1, pc + 1) := by
  unfold Jvm.ClassFile.Decoder.instr
  exact (rd_bind (u1_at h)).trans rfl
theorem dd_5 (h : rdB code pc 5) : (ReaderT.run (Jvm.ClassFile.Decoder.instr pc) code).run pc = .ok (.iconst 2, pc + 1) := by
  unfold Jvm.ClassFile.Decoder.instr
  exact (rd_bind (u1_at h)).trans rfl
theorem dd_6 (h : rdB code pc 6) : (ReaderT.run (Jvm.ClassFile.Decoder.instr pc) code).run pc = .ok (.iconst 3, pc + 1) := by
  unfold Jvm.ClassFile.Decoder.instr
  exact (rd_bind (u1_at h)).trans rfl
theorem dd_7 (h : rdB code pc 7) : (ReaderT.run (Jvm.ClassFile.Decoder.instr pc) code).run pc = .ok (.iconst 4, pc + 1) := by
  unfold Jvm.ClassFile.Decoder.instr
  exact (rd_bind (u1_at h)).trans rfl
theorem dd_8 (h : rdB code pc 8) : (ReaderT.run (Jvm.ClassFile.Decoder.instr pc) code).run pc = .ok (.iconst 5, pc + 1) := by
  unfold Jvm.ClassFile.Decoder.instr
  exact (rd_bind (u1_at h)).trans rfl
theorem dd_9 (h : rdB code pc 9) : (ReaderT.run (Jvm.ClassFile.Decoder.instr pc) code).run pc = .ok (.lconst 0, pc + 1) := by
  unfold Jvm.ClassFile.Decoder.instr
  exact (rd_bind (u1_at h)).trans rfl
theorem dd_10 (h : rdB code pc 10) : (ReaderT.run (Jvm.ClassFile.Decoder.instr pc) code).run pc = .ok (.lconst 1, pc + 1) := by
  unfold Jvm.ClassFile.Decoder.instr
  exact (rd_bind (u1_at h)).trans rfl
theorem dd_21 (h : rdB code pc 21) (h1 : rdB code (pc + 1) a) : (ReaderT.run (Jvm.ClassFile.Decoder.instr pc) code).run pc = .ok (.iload a, pc + 2) := by
  unfold Jvm.ClassFile.Decoder.instr
  refine (rd_bind (u1_at h)).trans ?_
  show (ReaderT.run ((Jvm.ClassFile.Reader.u1 : DcR Nat) >>= fun i => pure (Instr.iload i)) code).run (pc + 1) = _
  exact (rd_bind (u1_at h1)).trans rfl
theorem dd_22 (h : rdB code pc 22) (h1 : rdB code (pc + 1) a) : (ReaderT.run (Jvm.ClassFile.Decoder.instr pc) code).run pc = .ok (.lload a, pc + 2) := by
  unfold Jvm.ClassFile.Decoder.instr
  refine (rd_bind (u1_at h)).trans ?_
  show (ReaderT.run ((Jvm.ClassFile.Reader.u1 : DcR Nat) >>= fun i => pure (Instr.lload i)) code).run (pc + 1) = _
  exact (rd_bind (u1_at h1)).trans rfl
theorem dd_25 (h : rdB code pc 25) (h1 : rdB code (pc + 1) a) : (ReaderT.run (Jvm.ClassFile.Decoder.instr pc) code).run pc = .ok (.aload a, pc + 2) := by
  unfold Jvm.ClassFile.Decoder.instr
  refine (rd_bind (u1_at h)).trans ?_
  show (ReaderT.run ((Jvm.ClassFile.Reader.u1 : DcR Nat) >>= fun i => pure (Instr.aload i)) code).run (pc + 1) = _
  exact (rd_bind (u1_at h1)).trans rfl
theorem dd_54 (h : rdB code pc 54) (h1 : rdB code (pc + 1) a) : (ReaderT.run (Jvm.ClassFile.Decoder.instr pc) code).run pc = .ok (.istore a, pc + 2) := by
  unfold Jvm.ClassFile.Decoder.instr
  refine (rd_bind (u1_at h)).trans ?_
  show (ReaderT.run ((Jvm.ClassFile.Reader.u1 : DcR Nat) >>= fun i => pure (Instr.istore i)) code).run (pc + 1) = _
  exact (rd_bind (u1_at h1)).trans rfl
theorem dd_55 (h : rdB code pc 55) (h1 : rdB code (pc + 1) a) : (ReaderT.run (Jvm.ClassFile.Decoder.instr pc) code).run pc = .ok (.lstore a, pc + 2) := by
  unfold Jvm.ClassFile.Decoder.instr
  refine (rd_bind (u1_at h)).trans ?_
  show (ReaderT.run ((Jvm.ClassFile.Reader.u1 : DcR Nat) >>= fun i => pure (Instr.lstore i)) code).run (pc + 1) = _
  exact (rd_bind (u1_at h1)).trans rfl
theorem dd_58 (h : rdB code pc 58) (h1 : rdB code (pc + 1) a) : (ReaderT.run (Jvm.ClassFile.Decoder.instr pc) code).run pc = .ok (.astore a, pc + 2) := by
  unfold Jvm.ClassFile.Decoder.instr
  refine (rd_bind (u1_at h)).trans ?_
  show (ReaderT.run ((Jvm.ClassFile.Reader.u1 : DcR Nat) >>= fun i => pure (Instr.astore i)) code).run (pc + 1) = _
  exact (rd_bind (u1_at h1)).trans rfl
theorem dd_18 (h : rdB code pc 18) (h1 : rdB code (pc + 1) a) : (ReaderT.run (Jvm.ClassFile.Decoder.instr pc) code).run pc = .ok (.ldc a, pc + 2) := by
  unfold Jvm.ClassFile.Decoder.instr
  refine (rd_bind (u1_at h)).trans ?_
  show (ReaderT.run ((Jvm.ClassFile.Reader.u1 : DcR Nat) >>= fun i => pure (Instr.ldc i)) code).run (pc + 1) = _
  exact (rd_bind (u1_at h1)).trans rfl
theorem dd_19 (h : rdB code pc 19) (h1 : rdB code (pc + 1) a) (h2 : rdB code (pc + 2) b) : (ReaderT.run (Jvm.ClassFile.Decoder.instr pc) code).run pc = .ok (.ldc_w (a * 256 + b), pc + 3) := by
  unfold Jvm.ClassFile.Decoder.instr
  refine (rd_bind (u1_at h)).trans ?_
  show (ReaderT.run ((Jvm.ClassFile.Reader.u2 : DcR Nat) >>= fun i => pure (Instr.ldc_w i)) code).run (pc + 1) = _
  exact (rd_bind (u2_at h1 h2)).trans rfl
theorem dd_20 (h : rdB code pc 20) (h1 : rdB code (pc + 1) a) (h2 : rdB code (pc + 2) b) : (ReaderT.run (Jvm.ClassFile.Decoder.instr pc) code).run pc = .ok (.ldc2_w (a * 256 + b), pc + 3) := by
  unfold Jvm.ClassFile.Decoder.instr
  refine (rd_bind (u1_at h)).trans ?_
  show (ReaderT.run ((Jvm.ClassFile.Reader.u2 : DcR Nat) >>= fun i => pure (Instr.ldc2_w i)) code).run (pc + 1) = _
  exact (rd_bind (u2_at h1 h2)).trans rfl
theorem dd_180 (h : rdB code pc 180) (h1 : rdB code (pc + 1) a) (h2 : rdB code (pc + 2) b) : (ReaderT.run (Jvm.ClassFile.Decoder.instr pc) code).run pc = .ok (.getfield (a * 256 + b), pc + 3) := by
  unfold Jvm.ClassFile.Decoder.instr
  refine (rd_bind (u1_at h)).trans ?_
  show (ReaderT.run ((Jvm.ClassFile.Reader.u2 : DcR Nat) >>= fun i => pure (Instr.getfield i)) code).run (pc + 1) = _
  exact (rd_bind (u2_at h1 h2)).trans rfl
theorem dd_181 (h : rdB code pc 181) (h1 : rdB code (pc + 1) a) (h2 : rdB code (pc + 2) b) : (ReaderT.run (Jvm.ClassFile.Decoder.instr pc) code).run pc = .ok (.putfield (a * 256 + b), pc + 3) := by
  unfold Jvm.ClassFile.Decoder.instr
  refine (rd_bind (u1_at h)).trans ?_
  show (ReaderT.run ((Jvm.ClassFile.Reader.u2 : DcR Nat) >>= fun i => pure (Instr.putfield i)) code).run (pc + 1) = _
  exact (rd_bind (u2_at h1 h2)).trans rfl
theorem dd_182 (h : rdB code pc 182) (h1 : rdB code (pc + 1) a) (h2 : rdB code (pc + 2) b) : (ReaderT.run (Jvm.ClassFile.Decoder.instr pc) code).run pc = .ok (.invokevirtual (a * 256 + b), pc + 3) := by
  unfold Jvm.ClassFile.Decoder.instr
  refine (rd_bind (u1_at h)).trans ?_
  show (ReaderT.run ((Jvm.ClassFile.Reader.u2 : DcR Nat) >>= fun i => pure (Instr.invokevirtual i)) code).run (pc + 1) = _
  exact (rd_bind (u2_at h1 h2)).trans rfl
theorem dd_183 (h : rdB code pc 183) (h1 : rdB code (pc + 1) a) (h2 : rdB code (pc + 2) b) : (ReaderT.run (Jvm.ClassFile.Decoder.instr pc) code).run pc = .ok (.invokespecial (a * 256 + b), pc + 3) := by
  unfold Jvm.ClassFile.Decoder.instr
  refine (rd_bind (u1_at h)).trans ?_
  show (ReaderT.run ((Jvm.ClassFile.Reader.u2 : DcR Nat) >>= fun i => pure (Instr.invokespecial i)) code).run (pc + 1) = _
  exact (rd_bind (u2_at h1 h2)).trans rfl
theorem dd_184 (h : rdB code pc 184) (h1 : rdB code (pc + 1) a) (h2 : rdB code (pc + 2) b) : (ReaderT.run (Jvm.ClassFile.Decoder.instr pc) code).run pc = .ok (.invokestatic (a * 256 + b), pc + 3) := by
  unfold Jvm.ClassFile.Decoder.instr
  refine (rd_bind (u1_at h)).trans ?_
  show (ReaderT.run ((Jvm.ClassFile.Reader.u2 : DcR Nat) >>= fun i => pure (Instr.invokestatic i)) code).run (pc + 1) = _
  exact (rd_bind (u2_at h1 h2)).trans rfl
theorem dd_187 (h : rdB code pc 187) (h1 : rdB code (pc + 1) a) (h2 : rdB code (pc + 2) b) : (ReaderT.run (Jvm.ClassFile.Decoder.instr pc) code).run pc = .ok (.new (a * 256 + b), pc + 3) := by
  unfold Jvm.ClassFile.Decoder.instr
  refine (rd_bind (u1_at h)).trans ?_
  show (ReaderT.run ((Jvm.ClassFile.Reader.u2 : DcR Nat) >>= fun i => pure (Instr.new i)) code).run (pc + 1) = _
  exact (rd_bind (u2_at h1 h2)).trans rfl
theorem dd_189 (h : rdB code pc 189) (h1 : rdB code (pc + 1) a) (h2 : rdB code (pc + 2) b) : (ReaderT.run (Jvm.ClassFile.Decoder.instr pc) code).run pc = .ok (.anewarray (a * 256 + b), pc + 3) := by
  unfold Jvm.ClassFile.Decoder.instr
  refine (rd_bind (u1_at h)).trans ?_
  show (ReaderT.run ((Jvm.ClassFile.Reader.u2 : DcR Nat) >>= fun i => pure (Instr.anewarray i)) code).run (pc + 1) = _
  exact (rd_bind (u2_at h1 h2)).trans rfl
theorem dd_17 (h : rdB code pc 17) (h1 : rdB code (pc + 1) a) (h2 : rdB code (pc + 2) b) : (ReaderT.run (Jvm.ClassFile.Decoder.instr pc) code).run pc = .ok (.sipush (Jvm.ClassFile.Reader.signed 16 (a * 256 + b)), pc + 3) := by
  unfold Jvm.ClassFile.Decoder.instr
  refine (rd_bind (u1_at h)).trans ?_
  show (ReaderT.run ((Jvm.ClassFile.Reader.s2 : DcR Int) >>= fun i => pure (Instr.sipush i)) code).run (pc + 1) = _
  exact (rd_bind (s2_at h1 h2)).trans rfl
theorem dd_167 (h : rdB code pc 167) (h1 : rdB code (pc + 1) a) (h2 : rdB code (pc + 2) b) : (ReaderT.run (Jvm.ClassFile.Decoder.instr pc) code).run pc = .ok (.goto (Jvm.ClassFile.Reader.signed 16 (a * 256 + b)), pc + 3) := by
  unfold Jvm.ClassFile.Decoder.instr
  refine (rd_bind (u1_at h)).trans ?_
  show (ReaderT.run ((Jvm.ClassFile.Reader.s2 : DcR Int) >>= fun i => pure (Instr.goto i)) code).run (pc + 1) = _
  exact (rd_bind (s2_at h1 h2)).trans rfl
theorem dd_153 (h : rdB code pc 153) (h1 : rdB code (pc + 1) a) (h2 : rdB code (pc + 2) b) : (ReaderT.run (Jvm.ClassFile.Decoder.instr pc) code).run pc = .ok (.ifCond .eq (Jvm.ClassFile.Reader.signed 16 (a * 256 + b)), pc + 3) := by
  unfold Jvm.ClassFile.Decoder.instr
  refine (rd_bind (u1_at h)).trans ?_
  show (ReaderT.run ((Jvm.ClassFile.Reader.s2 : DcR Int) >>= fun i => pure (Instr.ifCond .eq i)) code).run (pc + 1) = _
  exact (rd_bind (s2_at h1 h2)).trans rfl
theorem dd_159 (h : rdB code pc 159) (h1 : rdB code (pc + 1) a) (h2 : rdB code (pc + 2) b) : (ReaderT.run (Jvm.ClassFile.Decoder.instr pc) code).run pc = .ok (.if_icmp .eq (Jvm.ClassFile.Reader.signed 16 (a * 256 + b)), pc + 3) := by
  unfold Jvm.ClassFile.Decoder.instr
  refine (rd_bind (u1_at h)).trans ?_
  show (ReaderT.run ((Jvm.ClassFile.Reader.s2 : DcR Int) >>= fun i => pure (Instr.if_icmp .eq i)) code).run (pc + 1) = _
  exact (rd_bind (s2_at h1 h2)).trans rfl
theorem dd_154 (h : rdB code pc 154) (h1 : rdB code (pc + 1) a) (h2 : rdB code (pc + 2) b) : (ReaderT.run (Jvm.ClassFile.Decoder.instr pc) code).run pc = .ok (.ifCond .ne (Jvm.ClassFile.Reader.signed 16 (a * 256 + b)), pc + 3) := by
  unfold Jvm.ClassFile.Decoder.instr
  refine (rd_bind (u1_at h)).trans ?_
  show (ReaderT.run ((Jvm.ClassFile.Reader.s2 : DcR Int) >>= fun i => pure (Instr.ifCond .ne i)) code).run (pc + 1) = _
  exact (rd_bind (s2_at h1 h2)).trans rfl
theorem dd_160 (h : rdB code pc 160) (h1 : rdB code (pc + 1) a) (h2 : rdB code (pc + 2) b) : (ReaderT.run (Jvm.ClassFile.Decoder.instr pc) code).run pc = .ok (.if_icmp .ne (Jvm.ClassFile.Reader.signed 16 (a * 256 + b)), pc + 3) := by
  unfold Jvm.ClassFile.Decoder.instr
  refine (rd_bind (u1_at h)).trans ?_
  show (ReaderT.run ((Jvm.ClassFile.Reader.s2 : DcR Int) >>= fun i => pure (Instr.if_icmp .ne i)) code).run (pc + 1) = _
  exact (rd_bind (s2_at h1 h2)).trans rfl
theorem dd_155 (h : rdB code pc 155) (h1 : rdB code (pc + 1) a) (h2 : rdB code (pc + 2) b) : (ReaderT.run (Jvm.ClassFile.Decoder.instr pc) code).run pc = .ok (.ifCond .lt (Jvm.ClassFile.Reader.signed 16 (a * 256 + b)), pc + 3) := by
  unfold Jvm.ClassFile.Decoder.instr
  refine (rd_bind (u1_at h)).trans ?_
  show (ReaderT.run ((Jvm.ClassFile.Reader.s2 : DcR Int) >>= fun i => pure (Instr.ifCond .lt i)) code).run (pc + 1) = _
  exact (rd_bind (s2_at h1 h2)).trans rfl
theorem dd_161 (h : rdB code pc 161) (h1 : rdB code (pc + 1) a) (h2 : rdB code (pc + 2) b) : (ReaderT.run (Jvm.ClassFile.Decoder.instr pc) code).run pc = .ok (.if_icmp .lt (Jvm.ClassFile.Reader.signed 16 (a * 256 + b)), pc + 3) := by
  unfold Jvm.ClassFile.Decoder.instr
  refine (rd_bind (u1_at h)).trans ?_
  show (ReaderT.run ((Jvm.ClassFile.Reader.s2 : DcR Int) >>= fun i => pure (Instr.if_icmp .lt i)) code).run (pc + 1) = _
  exact (rd_bind (s2_at h1 h2)).trans rfl
theorem dd_156 (h : rdB code pc 156) (h1 : rdB code (pc + 1) a) (h2 : rdB code (pc + 2) b) : (ReaderT.run (Jvm.ClassFile.Decoder.instr pc) code).run pc = .ok (.ifCond .ge (Jvm.ClassFile.Reader.signed 16 (a * 256 + b)), pc + 3) := by
  unfold Jvm.ClassFile.Decoder.instr
  refine (rd_bind (u1_at h)).trans ?_
  show (ReaderT.run ((Jvm.ClassFile.Reader.s2 : DcR Int) >>= fun i => pure (Instr.ifCond .ge i)) code).run (pc + 1) = _
  exact (rd_bind (s2_at h1 h2)).trans rfl
theorem dd_162 (h : rdB code pc 162) (h1 : rdB code (pc + 1) a) (h2 : rdB code (pc + 2) b) : (ReaderT.run (Jvm.ClassFile.Decoder.instr pc) code).run pc = .ok (.if_icmp .ge (Jvm.ClassFile.Reader.signed 16 (a * 256 + b)), pc + 3) := by
  unfold Jvm.ClassFile.Decoder.instr
  refine (rd_bind (u1_at h)).trans ?_
  show (ReaderT.run ((Jvm.ClassFile.Reader.s2 : DcR Int) >>= fun i => pure (Instr.if_icmp .ge i)) code).run (pc + 1) = _
  exact (rd_bind (s2_at h1 h2)).trans rfl
theorem dd_157 (h : rdB code pc 157) (h1 : rdB code (pc + 1) a) (h2 : rdB code (pc + 2) b) : (ReaderT.run (Jvm.ClassFile.Decoder.instr pc) code).run pc = .ok (.ifCond .gt (Jvm.ClassFile.Reader.signed 16 (a * 256 + b)), pc + 3) := by
  unfold Jvm.ClassFile.Decoder.instr
  refine (rd_bind (u1_at h)).trans ?_
  show (ReaderT.run ((Jvm.ClassFile.Reader.s2 : DcR Int) >>= fun i => pure (Instr.ifCond .gt i)) code).run (pc + 1) = _
  exact (rd_bind (s2_at h1 h2)).trans rfl
theorem dd_163 (h : rdB code pc 163) (h1 : rdB code (pc + 1) a) (h2 : rdB code (pc + 2) b) : (ReaderT.run (Jvm.ClassFile.Decoder.instr pc) code).run pc = .ok (.if_icmp .gt (Jvm.ClassFile.Reader.signed 16 (a * 256 + b)), pc + 3) := by
  unfold Jvm.ClassFile.Decoder.instr
  refine (rd_bind (u1_at h)).trans ?_
  show (ReaderT.run ((Jvm.ClassFile.Reader.s2 : DcR Int) >>= fun i => pure (Instr.if_icmp .gt i)) code).run (pc + 1) = _
  exact (rd_bind (s2_at h1 h2)).trans rfl
theorem dd_158 (h : rdB code pc 158) (h1 : rdB code (pc + 1) a) (h2 : rdB code (pc + 2) b) : (ReaderT.run (Jvm.ClassFile.Decoder.instr pc) code).run pc = .ok (.ifCond .le (Jvm.ClassFile.Reader.signed 16 (a * 256 + b)), pc + 3) := by
  unfold Jvm.ClassFile.Decoder.instr
  refine (rd_bind (u1_at h)).trans ?_
  show (ReaderT.run ((Jvm.ClassFile.Reader.s2 : DcR Int) >>= fun i => pure (Instr.ifCond .le i)) code).run (pc + 1) = _
  exact (rd_bind (s2_at h1 h2)).trans rfl
theorem dd_164 (h : rdB code pc 164) (h1 : rdB code (pc + 1) a) (h2 : rdB code (pc + 2) b) : (ReaderT.run (Jvm.ClassFile.Decoder.instr pc) code).run pc = .ok (.if_icmp .le (Jvm.ClassFile.Reader.signed 16 (a * 256 + b)), pc + 3) := by
  unfold Jvm.ClassFile.Decoder.instr
  refine (rd_bind (u1_at h)).trans ?_
  show (ReaderT.run ((Jvm.ClassFile.Reader.s2 : DcR Int) >>= fun i => pure (Instr.if_icmp .le i)) code).run (pc + 1) = _
  exact (rd_bind (s2_at h1 h2)).trans rfl
theorem dd_16 (h : rdB code pc 16) (h1 : rdB code (pc + 1) a) : (ReaderT.run (Jvm.ClassFile.Decoder.instr pc) code).run pc = .ok (.bipush (Jvm.ClassFile.Reader.signed 8 a), pc + 2) := by
  unfold Jvm.ClassFile.Decoder.instr
  refine (rd_bind (u1_at h)).trans ?_
  show (ReaderT.run ((Jvm.ClassFile.Reader.s1 : DcR Int) >>= fun i => pure (Instr.bipush i)) code).run (pc + 1) = _
  exact (rd_bind (s1_at h1)).trans rfl
theorem dd_132 (h : rdB code pc 132) (h1 : rdB code (pc + 1) a) (h2 : rdB code (pc + 2) b) : (ReaderT.run (Jvm.ClassFile.Decoder.instr pc) code).run pc = .ok (.iinc a (Jvm.ClassFile.Reader.signed 8 b), pc + 3) := by
  unfold Jvm.ClassFile.Decoder.instr
  refine (rd_bind (u1_at h)).trans ?_
  show (ReaderT.run ((Jvm.ClassFile.Reader.u1 : DcR Nat) >>= fun i => (Jvm.ClassFile.Reader.s1 : DcR Int) >>= fun j => pure (Instr.iinc i j)) code).run (pc + 1) = _
  exact ((rd_bind (u1_at h1)).trans (rd_bind (s1_at h2))).trans rfl
theorem dd_188_4 (h : rdB code pc 188) (h1 : rdB code (pc + 1) 4) : (ReaderT.run (Jvm.ClassFile.Decoder.instr pc) code).run pc = .ok (.newarray .boolean, pc + 2) := by
  unfold Jvm.ClassFile.Decoder.instr
  refine (rd_bind (u1_at h)).trans ?_
  show (ReaderT.run (Jvm.ClassFile.Decoder.newarray pc) code).run (pc + 1) = _
  unfold Jvm.ClassFile.Decoder.newarray
  exact (rd_bind (u1_at h1)).trans rfl
theorem dd_188_10 (h : rdB code pc 188) (h1 : rdB code (pc + 1) 10) : (ReaderT.run (Jvm.ClassFile.Decoder.instr pc) code).run pc = .ok (.newarray .int, pc + 2) := by
  unfold Jvm.ClassFile.Decoder.instr
  refine (rd_bind (u1_at h)).trans ?_
  show (ReaderT.run (Jvm.ClassFile.Decoder.newarray pc) code).run (pc + 1) = _
  unfold Jvm.ClassFile.Decoder.newarray
  exact (rd_bind (u1_at h1)).trans rfl
theorem dd_188_11 (h : rdB code pc 188) (h1 : rdB code (pc + 1) 11) : (ReaderT.run (Jvm.ClassFile.Decoder.instr pc) code).run pc = .ok (.newarray .long, pc + 2) := by
  unfold Jvm.ClassFile.Decoder.instr
  refine (rd_bind (u1_at h)).trans ?_
  show (ReaderT.run (Jvm.ClassFile.Decoder.newarray pc) code).run (pc + 1) = _
  unfold Jvm.ClassFile.Decoder.newarray
  exact (rd_bind (u1_at h1)).trans rfl
end DD
/-- the bytes of an instruction; []: not told here -/
def enc : Instr → List Nat
  | .iaload => [46]
  | .laload => [47]
  | .aaload => [50]
  | .baload => [51]
  | .iastore => [79]
  | .lastore => [80]
  | .aastore => [83]
  | .bastore => [84]
  | .pop => [87]
  | .dup => [89]
  | .dup2 => [92]
  | .iadd => [96]
  | .ladd => [97]
  | .isub => [100]
  | .lsub => [101]
  | .imul => [104]
  | .idiv => [108]
  | .irem => [112]
  | .ineg => [116]
  | .lneg => [117]
  | .ishl => [120]
  | .lshl => [121]
  | .ishr => [122]
  | .iushr => [124]
  | .lushr => [125]
  | .iand => [126]
  | .land => [127]
  | .ior => [128]
  | .lor => [129]
  | .ixor => [130]
  | .lxor => [131]
  | .i2l => [133]
  | .l2i => [136]
  | .lcmp => [148]
  | .ireturn => [172]
  | .lreturn => [173]
  | .return_ => [177]
  | .arraylength => [190]
  | .iload_n k => [26 + (k : Nat)]
  | .lload_n k => [30 + (k : Nat)]
  | .aload_n k => [42 + (k : Nat)]
  | .istore_n k => [59 + (k : Nat)]
  | .lstore_n k => [63 + (k : Nat)]
  | .astore_n k => [75 + (k : Nat)]
  | .iconst i => if decide (-1 ≤ i) && decide (i ≤ 5) then [(i + 3).toNat] else []
  | .lconst k => [9 + (k : Nat)]
  | .iload k => [21, k]
  | .lload k => [22, k]
  | .aload k => [25, k]
  | .istore k => [54, k]
  | .lstore k => [55, k]
  | .astore k => [58, k]
  | .ldc k => [18, k]
  | .ldc_w k => [19, k / 256, k % 256]
  | .ldc2_w k => [20, k / 256, k % 256]
  | .getfield k => [180, k / 256, k % 256]
  | .putfield k => [181, k / 256, k % 256]
  | .invokevirtual k => [182, k / 256, k % 256]
  | .invokespecial k => [183, k / 256, k % 256]
  | .invokestatic k => [184, k / 256, k % 256]
  | .new k => [187, k / 256, k % 256]
  | .anewarray k => [189, k / 256, k % 256]
  | .sipush v => if decide (-32768 ≤ v) && decide (v < 32768) then [17, (v % 65536).toNat / 256, (v % 65536).toNat % 256] else []
  | .goto v => if decide (-32768 ≤ v) && decide (v < 32768) then [167, (v % 65536).toNat / 256, (v % 65536).toNat % 256] else []
  | .ifCond q v => if decide (-32768 ≤ v) && decide (v < 32768) then [153 + cmN q, (v % 65536).toNat / 256, (v % 65536).toNat % 256] else []
  | .if_icmp q v => if decide (-32768 ≤ v) && decide (v < 32768) then [159 + cmN q, (v % 65536).toNat / 256, (v % 65536).toNat % 256] else []
  | .bipush v => if decide (-128 ≤ v) && decide (v < 128) then [16, (v % 256).toNat] else []
  | .iinc k v => if decide (-128 ≤ v) && decide (v < 128) then [132, k, (v % 256).toNat] else []
  | .newarray t => match t with
    | .boolean => [188, 4]
    | .int => [188, 10]
    | .long => [188, 11]
    | _ => []
  | _ => []
theorem dec_enc {code : ByteArray} {pc : Nat} {i : Instr} (hne : enc i ≠ []) (hb : rdL code pc (enc i)) : decode code pc = .ok (i, (enc i).length) := by
  cases i with
  | iaload => exact dec_of (dd_46 (hb 0 _ rfl))
  | laload => exact dec_of (dd_47 (hb 0 _ rfl))
  | aaload => exact dec_of (dd_50 (hb 0 _ rfl))
  | baload => exact dec_of (dd_51 (hb 0 _ rfl))
  | iastore => exact dec_of (dd_79 (hb 0 _ rfl))
  | lastore => exact dec_of (dd_80 (hb 0 _ rfl))
  | aastore => exact dec_of (dd_83 (hb 0 _ rfl))
  | bastore => exact dec_of (dd_84 (hb 0 _ rfl))
  | pop => exact dec_of (dd_87 (hb 0 _ rfl))
  | dup => exact dec_of (dd_89 (hb 0 _ rfl))
  | dup2 => exact dec_of (dd_92 (hb 0 _ rfl))
  | iadd => exact dec_of (dd_96 (hb 0 _ rfl))
  | ladd => exact dec_of (dd_97 (hb 0 _ rfl))
  | isub => exact dec_of (dd_100 (hb 0 _ rfl))
  | lsub => exact dec_of (dd_101 (hb 0 _ rfl))
  | imul => exact dec_of (dd_104 (hb 0 _ rfl))
  | idiv => exact dec_of (dd_108 (hb 0 _ rfl))
  | irem => exact dec_of (dd_112 (hb 0 _ rfl))
  | ineg => exact dec_of (dd_116 (hb 0 _ rfl))
  | lneg => exact dec_of (dd_117 (hb 0 _ rfl))
  | ishl => exact dec_of (dd_120 (hb 0 _ rfl))
  | lshl => exact dec_of (dd_121 (hb 0 _ rfl))
  | ishr => exact dec_of (dd_122 (hb 0 _ rfl))
  | iushr => exact dec_of (dd_124 (hb 0 _ rfl))
  | lushr => exact dec_of (dd_125 (hb 0 _ rfl))
  | iand => exact dec_of (dd_126 (hb 0 _ rfl))
  | land => exact dec_of (dd_127 (hb 0 _ rfl))
  | ior => exact dec_of (dd_128 (hb 0 _ rfl))
  | lor => exact dec_of (dd_129 (hb 0 _ rfl))
  | ixor => exact dec_of (dd_130 (hb 0 _ rfl))
  | lxor => exact dec_of (dd_131 (hb 0 _ rfl))
  | i2l => exact dec_of (dd_133 (hb 0 _ rfl))
  | l2i => exact dec_of (dd_136 (hb 0 _ rfl))
  | lcmp => exact dec_of (dd_148 (hb 0 _ rfl))
  | ireturn => exact dec_of (dd_172 (hb 0 _ rfl))
  | lreturn => exact dec_of (dd_173 (hb 0 _ rfl))
  | return_ => exact dec_of (dd_177 (hb 0 _ rfl))
  | arraylength => exact dec_of (dd_190 (hb 0 _ rfl))
  | iload_n k =>
    rcases k with ⟨v, hv⟩
    match v, hv, hb with
    | 0, _, hb => exact dec_of (dd_26 (hb 0 _ rfl))
    | 1, _, hb => exact dec_of (dd_27 (hb 0 _ rfl))
    | 2, _, hb => exact dec_of (dd_28 (hb 0 _ rfl))
    | 3, _, hb => exact dec_of (dd_29 (hb 0 _ rfl))
    | n + 4, h, _ => omega
  | lload_n k =>
    rcases k with ⟨v, hv⟩
    match v, hv, hb with
    | 0, _, hb => exact dec_of (dd_30 (hb 0 _ rfl))
    | 1, _, hb => exact dec_of (dd_31 (hb 0 _ rfl))
    | 2, _, hb => exact dec_of (dd_32 (hb 0 _ rfl))
    | 3, _, hb => exact dec_of (dd_33 (hb 0 _ rfl))
    | n + 4, h, _ => omega
  | aload_n k =>
    rcases k with ⟨v, hv⟩
    match v, hv, hb with
    | 0, _, hb => exact dec_of (dd_42 (hb 0 _ rfl))
    | 1, _, hb => exact dec_of (dd_43 (hb 0 _ rfl))
    | 2, _, hb => exact dec_of (dd_44 (hb 0 _ rfl))
    | 3, _, hb => exact dec_of (dd_45 (hb 0 _ rfl))
    | n + 4, h, _ => omega
  | istore_n k =>
    rcases k with ⟨v, hv⟩
    match v, hv, hb with
    | 0, _, hb => exact dec_of (dd_59 (hb 0 _ rfl))
    | 1, _, hb => exact dec_of (dd_60 (hb 0 _ rfl))
    | 2, _, hb => exact dec_of (dd_61 (hb 0 _ rfl))
    | 3, _, hb => exact dec_of (dd_62 (hb 0 _ rfl))
    | n + 4, h, _ => omega
  | lstore_n k =>
    rcases k with ⟨v, hv⟩
    match v, hv, hb with
    | 0, _, hb => exact dec_of (dd_63 (hb 0 _ rfl))
    | 1, _, hb => exact dec_of (dd_64 (hb 0 _ rfl))
    | 2, _, hb => exact dec_of (dd_65 (hb 0 _ rfl))
    | 3, _, hb => exact dec_of (dd_66 (hb 0 _ rfl))
    | n + 4, h, _ => omega
  | astore_n k =>
    rcases k with ⟨v, hv⟩
    match v, hv, hb with
    | 0, _, hb => exact dec_of (dd_75 (hb 0 _ rfl))
    | 1, _, hb => exact dec_of (dd_76 (hb 0 _ rfl))
    | 2, _, hb => exact dec_of (dd_77 (hb 0 _ rfl))
    | 3, _, hb => exact dec_of (dd_78 (hb 0 _ rfl))
    | n + 4, h, _ => omega
  | iconst v =>
    by_cases h : (decide (-1 ≤ v) && decide (v ≤ 5)) = true
    · have e : enc (.iconst v) = [(v + 3).toNat] := if_pos h
      rw [e] at hb ⊢
      simp only [Bool.and_eq_true, decide_eq_true_eq] at h
      have h0 := hb 0 _ rfl
      rcases (show v = -1 ∨ v = 0 ∨ v = 1 ∨ v = 2 ∨ v = 3 ∨ v = 4 ∨ v = 5 by omega) with q | q | q | q | q | q | q
      · subst q; exact dec_of (dd_2 h0)
      · subst q; exact dec_of (dd_3 h0)
      · subst q; exact dec_of (dd_4 h0)
      · subst q; exact dec_of (dd_5 h0)
      · subst q; exact dec_of (dd_6 h0)
      · subst q; exact dec_of (dd_7 h0)
      · subst q; exact dec_of (dd_8 h0)
    · exact absurd (if_neg h) hne
  | lconst k =>
    rcases k with ⟨v, hv⟩
    match v, hv, hb with
    | 0, _, hb => exact dec_of (dd_9 (hb 0 _ rfl))
    | 1, _, hb => exact dec_of (dd_10 (hb 0 _ rfl))
    | n + 2, h, _ => omega
  | iload k => exact dec_of (dd_21 (hb 0 _ rfl) (hb 1 _ rfl))
  | lload k => exact dec_of (dd_22 (hb 0 _ rfl) (hb 1 _ rfl))
  | aload k => exact dec_of (dd_25 (hb 0 _ rfl) (hb 1 _ rfl))
  | istore k => exact dec_of (dd_54 (hb 0 _ rfl) (hb 1 _ rfl))
  | lstore k => exact dec_of (dd_55 (hb 0 _ rfl) (hb 1 _ rfl))
  | astore k => exact dec_of (dd_58 (hb 0 _ rfl) (hb 1 _ rfl))
  | ldc k => exact dec_of (dd_18 (hb 0 _ rfl) (hb 1 _ rfl))
  | ldc_w k =>
    have h := dd_19 (hb 0 _ rfl) (hb 1 _ rfl) (hb 2 _ rfl)
    rw [dm256] at h
    exact dec_of h
  | ldc2_w k =>
    have h := dd_20 (hb 0 _ rfl) (hb 1 _ rfl) (hb 2 _ rfl)
    rw [dm256] at h
    exact dec_of h
  | getfield k =>
    have h := dd_180 (hb 0 _ rfl) (hb 1 _ rfl) (hb 2 _ rfl)
    rw [dm256] at h
    exact dec_of h
  | putfield k =>
    have h := dd_181 (hb 0 _ rfl) (hb 1 _ rfl) (hb 2 _ rfl)
    rw [dm256] at h
    exact dec_of h
  | invokevirtual k =>
    have h := dd_182 (hb 0 _ rfl) (hb 1 _ rfl) (hb 2 _ rfl)
    rw [dm256] at h
    exact dec_of h
  | invokespecial k =>
    have h := dd_183 (hb 0 _ rfl) (hb 1 _ rfl) (hb 2 _ rfl)
    rw [dm256] at h
    exact dec_of h
  | invokestatic k =>
    have h := dd_184 (hb 0 _ rfl) (hb 1 _ rfl) (hb 2 _ rfl)
    rw [dm256] at h
    exact dec_of h
  | new k =>
    have h := dd_187 (hb 0 _ rfl) (hb 1 _ rfl) (hb 2 _ rfl)
    rw [dm256] at h
    exact dec_of h
  | anewarray k =>
    have h := dd_189 (hb 0 _ rfl) (hb 1 _ rfl) (hb 2 _ rfl)
    rw [dm256] at h
    exact dec_of h
  | sipush v =>
    by_cases h : (decide (-32768 ≤ v) && decide (v < 32768)) = true
    · have e : enc (.sipush v) = [17, (v % 65536).toNat / 256, (v % 65536).toNat % 256] := if_pos h
      rw [e] at hb ⊢
      simp only [Bool.and_eq_true, decide_eq_true_eq] at h
      have q := dd_17 (hb 0 _ rfl) (hb 1 _ rfl) (hb 2 _ rfl)
      rw [sg16 h.1 h.2] at q
      exact dec_of q
    · exact absurd (if_neg h) hne
  | goto v =>
    by_cases h : (decide (-32768 ≤ v) && decide (v < 32768)) = true
    · have e : enc (.goto v) = [167, (v % 65536).toNat / 256, (v % 65536).toNat % 256] := if_pos h
      rw [e] at hb ⊢
      simp only [Bool.and_eq_true, decide_eq_true_eq] at h
      have q := dd_167 (hb 0 _ rfl) (hb 1 _ rfl) (hb 2 _ rfl)
      rw [sg16 h.1 h.2] at q
      exact dec_of q
    · exact absurd (if_neg h) hne
  | ifCond q v =>
    by_cases h : (decide (-32768 ≤ v) && decide (v < 32768)) = true
    · have e : enc (.ifCond q v) = [153 + cmN q, (v % 65536).toNat / 256, (v % 65536).toNat % 256] := if_pos h
      rw [e] at hb ⊢
      simp only [Bool.and_eq_true, decide_eq_true_eq] at h
      cases q with
      | eq =>
        have q := dd_153 (hb 0 _ rfl) (hb 1 _ rfl) (hb 2 _ rfl)
        rw [sg16 h.1 h.2] at q
        exact dec_of q
      | ne =>
        have q := dd_154 (hb 0 _ rfl) (hb 1 _ rfl) (hb 2 _ rfl)
        rw [sg16 h.1 h.2] at q
        exact dec_of q
      | lt =>
        have q := dd_155 (hb 0 _ rfl) (hb 1 _ rfl) (hb 2 _ rfl)
        rw [sg16 h.1 h.2] at q
        exact dec_of q
      | ge =>
        have q := dd_156 (hb 0 _ rfl) (hb 1 _ rfl) (hb 2 _ rfl)
        rw [sg16 h.1 h.2] at q
        exact dec_of q
      | gt =>
        have q := dd_157 (hb 0 _ rfl) (hb 1 _ rfl) (hb 2 _ rfl)
        rw [sg16 h.1 h.2] at q
        exact dec_of q
      | le =>
        have q := dd_158 (hb 0 _ rfl) (hb 1 _ rfl) (hb 2 _ rfl)
        rw [sg16 h.1 h.2] at q
        exact dec_of q
    · exact absurd (if_neg h) hne
  | if_icmp q v =>
    by_cases h : (decide (-32768 ≤ v) && decide (v < 32768)) = true
    · have e : enc (.if_icmp q v) = [159 + cmN q, (v % 65536).toNat / 256, (v % 65536).toNat % 256] := if_pos h
      rw [e] at hb ⊢
      simp only [Bool.and_eq_true, decide_eq_true_eq] at h
      cases q with
      | eq =>
        have q := dd_159 (hb 0 _ rfl) (hb 1 _ rfl) (hb 2 _ rfl)
        rw [sg16 h.1 h.2] at q
        exact dec_of q
      | ne =>
        have q := dd_160 (hb 0 _ rfl) (hb 1 _ rfl) (hb 2 _ rfl)
        rw [sg16 h.1 h.2] at q
        exact dec_of q
      | lt =>
        have q := dd_161 (hb 0 _ rfl) (hb 1 _ rfl) (hb 2 _ rfl)
        rw [sg16 h.1 h.2] at q
        exact dec_of q
      | ge =>
        have q := dd_162 (hb 0 _ rfl) (hb 1 _ rfl) (hb 2 _ rfl)
        rw [sg16 h.1 h.2] at q
        exact dec_of q
      | gt =>
        have q := dd_163 (hb 0 _ rfl) (hb 1 _ rfl) (hb 2 _ rfl)
        rw [sg16 h.1 h.2] at q
        exact dec_of q
      | le =>
        have q := dd_164 (hb 0 _ rfl) (hb 1 _ rfl) (hb 2 _ rfl)
        rw [sg16 h.1 h.2] at q
        exact dec_of q
    · exact absurd (if_neg h) hne
  | bipush v =>
    by_cases h : (decide (-128 ≤ v) && decide (v < 128)) = true
    · have e : enc (.bipush v) = [16, (v % 256).toNat] := if_pos h
      rw [e] at hb ⊢
      simp only [Bool.and_eq_true, decide_eq_true_eq] at h
      have q := dd_16 (hb 0 _ rfl) (hb 1 _ rfl)
      rw [sg8 h.1 h.2] at q
      exact dec_of q
    · exact absurd (if_neg h) hne
  | iinc k v =>
    by_cases h : (decide (-128 ≤ v) && decide (v < 128)) = true
    · have e : enc (.iinc k v) = [132, k, (v % 256).toNat] := if_pos h
      rw [e] at hb ⊢
      simp only [Bool.and_eq_true, decide_eq_true_eq] at h
      have q := dd_132 (hb 0 _ rfl) (hb 1 _ rfl) (hb 2 _ rfl)
      rw [sg8 h.1 h.2] at q
      exact dec_of q
    · exact absurd (if_neg h) hne
  | newarray t =>
    cases t with
    | boolean => exact dec_of (dd_188_4 (hb 0 _ rfl) (hb 1 _ rfl))
    | int => exact dec_of (dd_188_10 (hb 0 _ rfl) (hb 1 _ rfl))
    | long => exact dec_of (dd_188_11 (hb 0 _ rfl) (hb 1 _ rfl))
    | _ => exact absurd rfl hne
  | _ => exact absurd rfl hne
/-- a row against the bytes that stand there -/
def preB : List Nat → List UInt8 → Bool
  | [], _ => true
  | a :: r, b :: t => Nat.beq a b.toNat && preB r t
  | _ :: _, [] => false
def opM (r : ARow) (bs : List UInt8) : Bool := match enc r.1 with
  | [] => false
  | a :: e => preB (a :: e) bs && Nat.beq (a :: e).length r.2.1
def chkB (code : ByteArray) (f : Nat → Option ARow) : List UInt8 → Nat → Bool
  | [], _ => true
  | b :: t, pc => (match f pc with
    | some r => opM r (b :: t) || decide (decode code pc = .ok (r.1, r.2.1))
    | none => true) && chkB code f t (pc + 1)
theorem preB_ok : ∀ {es : List Nat} {bs : List UInt8}, preB es bs = true → ∀ (j a : Nat), es[j]? = some a → ∃ b, bs[j]? = some b ∧ b.toNat = a
  | [], bs, _, j, a, h => by cases h
  | a :: r, [], h, _, _, _ => by cases h
  | a :: r, b :: t, h, j, a', hj => by
    replace h : (Nat.beq a b.toNat && preB r t) = true := h
    simp only [Bool.and_eq_true] at h
    cases j with
    | zero =>
      cases hj
      exact ⟨b, rfl, (Nat.eq_of_beq_eq_true h.1).symm⟩
    | succ j => exact preB_ok h.2 j a' hj
theorem rdB_of {code : ByteArray} {p : Nat} {b : UInt8} (h : code.data.toList[p]? = some b) : rdB code p b.toNat := by
  rw [Array.getElem?_toList] at h
  obtain ⟨h1, h2⟩ := Array.getElem?_eq_some_iff.mp h
  exact ⟨h1, by rw [← h2]; rfl⟩
theorem chkB_ok {code : ByteArray} {f : Nat → Option ARow} : ∀ {bs : List UInt8} {pc : Nat}, chkB code f bs pc = true → bs = code.data.toList.drop pc → ∀ p r, pc ≤ p → p < pc + bs.length → f p = some r → decode code p = .ok (r.1, r.2.1)
  | [], pc, _, _, p, r, h1, h2, _ => by simp at h2; omega
  | b :: t, pc, h, hd, p, r, h1, h2, hf => by
    replace h : ((match f pc with
      | some r => opM r (b :: t) || decide (decode code pc = .ok (r.1, r.2.1))
      | none => true) && chkB code f t (pc + 1)) = true := h
    simp only [Bool.and_eq_true] at h
    by_cases e : p = pc
    · subst e
      have h0 := h.1
      rw [hf] at h0
      simp only [Bool.or_eq_true, decide_eq_true_eq] at h0
      rcases h0 with h0 | h0
      · unfold opM at h0
        cases he : enc r.1 with
        | nil => rw [he] at h0; cases h0
        | cons a es =>
          rw [he] at h0
          simp only [Bool.and_eq_true] at h0
          have hne : enc r.1 ≠ [] := by rw [he]; exact List.cons_ne_nil _ _
          have hb : rdL code p (enc r.1) := by
            intro j a' hj
            rw [he] at hj
            obtain ⟨b', hb', e'⟩ := preB_ok h0.1 j a' hj
            rw [hd, List.getElem?_drop] at hb'
            rw [← e']
            exact rdB_of hb'
          have := dec_enc hne hb
          rw [this, he, Nat.eq_of_beq_eq_true h0.2]
      · exact h0
    · have hd' : t = code.data.toList.drop (pc + 1) := by
        rw [← List.drop_drop, ← hd]
        rfl
      exact chkB_ok h.2 hd' p r (by omega) (by simp only [List.length_cons] at h2; omega) hf
