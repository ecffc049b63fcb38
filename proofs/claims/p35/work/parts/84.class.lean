/-! Texts that are constants: length, charAt; the word that stands in the text -/
def gOK (g : Nat → Int) : Prop := ∀ j, 0 ≤ g j ∧ g j ≤ 127
/-- a constant text of n signs at q -/
def StrA (s0 : State) (q n : Nat) : Prop := ∃ (v : Nat) (g : Nat → Int), n ≤ 6 ∧ gOK g ∧ va_O "java/lang/String" q (mb_F s0) s0 s0.heap ∧ va_OF "java/lang/String" "coder" "B" (.int (Int32.ofInt 0)) q (mb_F s0) s0 s0.heap ∧ va_OF "java/lang/String" "value" "[B" (.ref v) q (mb_F s0) s0 s0.heap ∧ va_T .byte v n (fun j => .int (Int32.ofInt (g j))) (mb_F s0) s0 s0.heap
/-- what the Statement gives of the JDK's statics -/
def SF0 (s0 : State) : Prop := va_Z "java/lang/String" "COMPACT_STRINGS" "Z" (.int (Int32.ofInt 1)) (mb_F s0) s0 s0.heap ∧ va_Zq "jdk/internal/util/Preconditions" "SIOOBE_FORMATTER" "Ljava/util/function/BiFunction;" (mb_F s0) s0 s0.heap
/-- the texts of the class's reading of rules: place in the pool, length -/
def txL : List (Nat × Nat) := [(74, 4), (80, 4), (101, 2), (109, 3), (111, 3), (125, 5), (127, 4), (136, 4), (138, 5), (140, 4), (142, 5), (144, 5), (146, 3), (148, 6)]
def TXs0 (s0 : State) : Prop := ∀ p ∈ txL, ∃ (t : String) (q : Nat), vk_R RX7 p.1 t q s0 ∧ StrA s0 q p.2
/-- words for a call of cn by the place idx -/
def cwX (own : String) (idx cn : Nat) (ret : Option FieldType) (n : Nat) : Prop := Cond.methodLink own idx (yA cn) ∈ gT ∧ Cond.code (yA cn) (byA cn) (mNL (miB cn)) ret ∈ gT ∧ Cond.initialized (yA cn).cls ∈ gT ∧ ((yA cn).cls ≠ "java/lang/invoke/MethodHandle" ∧ (yA cn).cls ≠ "java/lang/invoke/VarHandle" ∧ (parseMethodDescriptor (yA cn).desc).map (fun d => d.parameters.length) = some n) ∧ Cond.instanceMethod (yA cn) ∈ gT ∧ Cond.selects (yA cn).cls (yA cn) (yA cn) ∈ gT
def csX (own : String) (idx cn : Nat) (ret : Option FieldType) (n : Nat) : Prop := Cond.methodLink own idx (yA cn) ∈ gT ∧ Cond.code (yA cn) (byA cn) (mNL (miB cn)) ret ∈ gT ∧ Cond.initialized (yA cn).cls ∈ gT ∧ ((yA cn).cls ≠ "java/lang/invoke/MethodHandle" ∧ (yA cn).cls ≠ "java/lang/invoke/VarHandle" ∧ (parseMethodDescriptor (yA cn).desc).map (fun d => d.parameters.length) = some n) ∧ Cond.static (yA cn) ∈ gT
theorem cw_len : cwX (yA 131).cls 62 302 (some .int) 0 := ⟨chkW_ok (p := (5, 10)) (by decide +kernel), chkW_ok (p := (5, 13)) (by decide +kernel), chkW_ok (p := (1, 21)) (by decide +kernel), (by decide +kernel), chkW_ok (p := (5, 11)) (by decide +kernel), chkW_ok (p := (5, 12)) (by decide +kernel)⟩
theorem cw_cha : cwX (yA 131).cls 68 303 (some .char) 1 := ⟨chkW_ok (p := (5, 20)) (by decide +kernel), chkW_ok (p := (5, 23)) (by decide +kernel), chkW_ok (p := (1, 21)) (by decide +kernel), (by decide +kernel), chkW_ok (p := (5, 21)) (by decide +kernel), chkW_ok (p := (5, 22)) (by decide +kernel)⟩
theorem cw_cod : cwX (yA 302).cls 335 304 (some .byte) 0 := ⟨chkW_ok (p := (5, 14)) (by decide +kernel), chkW_ok (p := (5, 17)) (by decide +kernel), chkW_ok (p := (1, 21)) (by decide +kernel), (by decide +kernel), chkW_ok (p := (5, 15)) (by decide +kernel), chkW_ok (p := (5, 16)) (by decide +kernel)⟩
theorem cw_lat : cwX (yA 303).cls 492 305 (some .boolean) 0 := ⟨chkW_ok (p := (5, 24)) (by decide +kernel), chkW_ok (p := (5, 27)) (by decide +kernel), chkW_ok (p := (1, 21)) (by decide +kernel), (by decide +kernel), chkW_ok (p := (5, 25)) (by decide +kernel), chkW_ok (p := (5, 26)) (by decide +kernel)⟩
theorem cw_chk : csX (yA 307).cls 9 306 none 2 := ⟨chkW_ok (p := (5, 31)) (by decide +kernel), chkW_ok (p := (5, 33)) (by decide +kernel), chkW_ok (p := (1, 21)) (by decide +kernel), (by decide +kernel), chkW_ok (p := (5, 32)) (by decide +kernel)⟩
theorem cw_lch : csX (yA 303).cls 495 307 (some .char) 2 := ⟨chkW_ok (p := (5, 28)) (by decide +kernel), chkW_ok (p := (5, 30)) (by decide +kernel), chkW_ok (p := (1, 22)) (by decide +kernel), (by decide +kernel), chkW_ok (p := (5, 29)) (by decide +kernel)⟩
theorem cw_pre : csX (yA 306).cls 1059 313 (some .int) 3 := ⟨chkW_ok (p := (5, 36)) (by decide +kernel), chkW_ok (p := (5, 38)) (by decide +kernel), chkW_ok (p := (1, 23)) (by decide +kernel), (by decide +kernel), chkW_ok (p := (5, 37)) (by decide +kernel)⟩
section ZK
variable {k : kx_T} {mn pc : Nat} {dT : Nat → ClassId} {lv : List (Nat × Value)} {st : List Value} {ws : va_W} {ce sl a b a' b' q1 : Nat} {z z' : Int}
theorem w_getsK (X : AX k mn dT) {C n d : String} {v : Value} {idx : Nat} (hZ : va_Z C n d v (mb_F (kS0 k)) (kS0 k) (kS0 k).heap) (hl : Cond.fieldLink (kOwn k) idx C n d ∈ gT) (dd : decode (kCc k) pc = .ok (.getstatic idx, 3)) (g : WS k (pc + 3) lv (v :: st) ws ce sl) : WS k pc lv st ws ce sl :=
  fun H locs ls hP hD hS hlv => va_gets (C := C) (ref := C) (own := kOwn k) (index := idx) (A := kF k) X.1.1 X.1.2.1 ((hZ.moved X.1.2.2.2.2.1.alike).kept (fun a ha _ => X.1.2.2.2.2.2.2.2.1 a ha)) hS X.1.2.2.2.1 (kx_wd X.1 _ hl) (fun x h => h) dd (g H locs ls hP hD hS hlv)
theorem w_getfK (X : AX k mn dT) {C n d : String} {v : Value} {idx q : Nat} (hE : va_OF C n d v q (mb_F (kS0 k)) (kS0 k) (kS0 k).heap) (hl : Cond.fieldLink (kOwn k) idx C n d ∈ gT) (dd : decode (kCc k) pc = .ok (.getfield idx, 3)) (g : WS k (pc + 3) lv (v :: st) ws ce sl) : WS k pc lv (.ref q :: st) ws ce sl :=
  fun H locs ls hP hD hS hlv => vk_getf (o := C) (ref := C) (own := kOwn k) (index := idx) (A := kF k) X.1.1 X.1.2.1 ((hE.moved X.1.2.2.2.2.1.alike).kept (fun a ha _ => X.1.2.2.2.2.2.2.2.1 a ha)) hS X.1.2.2.2.1 (kx_wd X.1 _ hl) (fun x h => h) dd (g H locs ls hP hD hS hlv)
theorem w_ldcK (X : AX k mn dT) {tx : String} {idx q : Nat} (hR : vk_R (kOwn k) idx tx q (kS0 k)) (dd : decode (kCc k) pc = .ok (.ldc idx, 2)) (g : WS k (pc + 2) lv (.ref q :: st) ws ce sl) : WS k pc lv st ws ce sl :=
  fun H locs ls hP hD hS hlv => va_ldcS (own := kOwn k) (index := idx) X.1.1 X.1.2.1 X.1.2.2.2.1 (hR.warm X.1.2.2.2.2.1) dd (g H locs ls hP hD hS hlv)
theorem w_tbK (X : AX k mn dT) {t N : Nat} {g0 : Nat → Int} {i : Int} (hT : va_T .byte t N (fun j => .int (Int32.ofInt (g0 j))) (mb_F (kS0 k)) (kS0 k) (kS0 k).heap) (hg : gOK g0) (hi : 0 ≤ i ∧ i < (N : Int)) (hN : N ≤ 6) (dd : decode (kCc k) pc = .ok (.baload, 1)) (g : ∀ e : Int, 0 ≤ e → e ≤ 127 → WS k (pc + 1) lv (.int (Int32.ofInt e) :: st) ws ce sl) : WS k pc lv (.int (Int32.ofInt i) :: .ref t :: st) ws ce sl := by
  intro H locs ls hP hD hS hlv
  have hin : vp_in (Int32.ofInt i) N := by
    rw [on_of hi.1]
    exact on_in (by omega) (by omega)
  exact va_tb (v := .int (Int32.ofInt (g0 (Int32.ofInt i).toNatClampNeg))) X.1.1 X.1.2.1 (kx_T0 X.1 hT) hS hin rfl dd (g _ (hg _).1 (hg _).2 H locs ls hP hD hS hlv)
theorem w_255 (X : AX k mn dT) {e : Int} (he : 0 ≤ e ∧ e ≤ 127) (d1 : decode (kCc k) pc = .ok (.sipush 255, 3)) (d2 : decode (kCc k) (pc + 3) = .ok (.iand, 1)) (d3 : decode (kCc k) (pc + 3 + 1) = .ok (.i2c, 1)) (g : WS k (pc + 3 + 1 + 1) lv (.int (Int32.ofInt e) :: st) ws ce sl) : WS k pc lv (.int (Int32.ofInt e) :: st) ws ce sl := by
  refine w_sipush X.1 d1 rfl ?_
  refine w_iand X.1 d2 ?_
  have h9 : ∀ m : Nat, m < 128 → ((Int32.ofInt (m : Int) &&& (Int16.ofInt 255).toInt32).toUInt32 % 65536).toInt32 = Int32.ofInt (m : Int) := by decide +kernel
  have h8 := h9 e.toNat (by omega)
  rw [Int.toNat_of_nonneg he.1] at h8
  exact fun H locs ls hP hD hS hlv => lv_i2c X.1.1 X.1.2.1 d3 h8 (g H locs ls hP hD hS hlv)
theorem nar_ch {e : Int} (he : 0 ≤ e ∧ e ≤ 127) : narrow .char (.int (Int32.ofInt e)) = .int (Int32.ofInt e) := by
  have h9 : ∀ m : Nat, m < 128 → narrow .char (.int (Int32.ofInt (m : Int))) = .int (Int32.ofInt (m : Int)) := by decide +kernel
  have h8 := h9 e.toNat (by omega)
  rw [Int.toNat_of_nonneg he.1] at h8
  exact h8
theorem shr0 {n : Nat} (h : n ≤ 6) : Int32.ofInt (n : Int) >>> (Int32.ofInt 0 &&& 31) = Int32.ofInt (n : Int) := by
  have : n = 0 ∨ n = 1 ∨ n = 2 ∨ n = 3 ∨ n = 4 ∨ n = 5 ∨ n = 6 := by omega
  rcases this with e | e | e | e | e | e | e <;> subst e <;> decide +kernel
theorem len_of {n : Nat} (h : n ≤ 6) : Int32.ofNat n = Int32.ofInt (n : Int) := by
  have : n = 0 ∨ n = 1 ∨ n = 2 ∨ n = 3 ∨ n = 4 ∨ n = 5 ∨ n = 6 := by omega
  rcases this with e | e | e | e | e | e | e <;> subst e <;> decide +kernel
theorem y_tlen (X : AX k mn dT) {ty : FieldType} {t N : Nat} {f : Nat → Value} (dd : decode (kCc k) pc = .ok (.arraylength, 1)) (hT : va_T ty t N f (mb_F (kS0 k)) (kS0 k) (kS0 k).heap) {n : Int} (hn : Int32.ofNat N = Int32.ofInt n) (g : WS k (pc + 1) lv (.int (Int32.ofInt n) :: st) ws ce sl) : WS k pc lv (.ref t :: st) ws ce sl :=
  fun H locs ls hP hD hS hlv => va_tlen X.1.1 X.1.2.1 (kx_T0 X.1 hT) hS hn dd (g H locs ls hP hD hS hlv)
theorem y_if_eq (C : kx_ok k) {x off : Int} {t : Nat} (d : decode (kCc k) pc = .ok (.ifCond .eq off, 3)) (ht : (pc : Int) + off = (t : Int)) (hx : rng x) (h1 : x = 0 → WS k t lv st ws ce sl) (h2 : x ≠ 0 → WS k (pc + 3) lv st ws ce sl) : WS k pc lv (.int (Int32.ofInt x) :: st) ws ce sl := w_if_eq C d ht (fun q => h1 ((zi_eq hx rng_0).mp q)) (fun q => h2 (fun z => q ((zi_eq hx rng_0).mpr z)))
theorem y_if_ne (C : kx_ok k) {x off : Int} {t : Nat} (d : decode (kCc k) pc = .ok (.ifCond .ne off, 3)) (ht : (pc : Int) + off = (t : Int)) (hx : rng x) (h1 : x ≠ 0 → WS k t lv st ws ce sl) (h2 : x = 0 → WS k (pc + 3) lv st ws ce sl) : WS k pc lv (.int (Int32.ofInt x) :: st) ws ce sl := w_if_ne C d ht (fun q => h1 (fun z => q ((zi_eq hx rng_0).mpr z))) (fun q => h2 ((zi_eq hx rng_0).mp q))
theorem y_if_lt (C : kx_ok k) {x off : Int} {t : Nat} (d : decode (kCc k) pc = .ok (.ifCond .lt off, 3)) (ht : (pc : Int) + off = (t : Int)) (hx : rng x) (h1 : x < 0 → WS k t lv st ws ce sl) (h2 : 0 ≤ x → WS k (pc + 3) lv st ws ce sl) : WS k pc lv (.int (Int32.ofInt x) :: st) ws ce sl := w_if_lt C d ht (fun q => h1 ((zi_lt hx rng_0).mp q)) (fun q => h2 (Int.not_lt.mp (fun z => q ((zi_lt hx rng_0).mpr z))))
theorem y_icmp_lt (C : kx_ok k) {x y off : Int} {t : Nat} (d : decode (kCc k) pc = .ok (.if_icmp .lt off, 3)) (ht : (pc : Int) + off = (t : Int)) (hx : rng x) (hy : rng y) (h1 : x < y → WS k t lv st ws ce sl) (h2 : y ≤ x → WS k (pc + 3) lv st ws ce sl) : WS k pc lv (.int (Int32.ofInt y) :: .int (Int32.ofInt x) :: st) ws ce sl := w_icmp_lt C d ht (fun q => h1 ((zi_lt hx hy).mp q)) (fun q => h2 (Int.not_lt.mp (fun z => q ((zi_lt hx hy).mpr z))))
/-- a contract of a method of the JDK's, its answer's type told -/
def CTR (l : Launch) (s0 : State) (D : va_G) (A : Nat → Nat) (dT : Nat → ClassId) (mn : Nat) (ret : Option FieldType) (rm : Room) (vals : List Value) (s : PS) (Q : mb_O → PS → Prop) : Prop :=
  MB l s0 D (yA mn) (.code (yA mn) (byA mn) (mNL (miB mn)) ret) rm vals (Wd A dT s) (fun o ws => ∃ s', ws = Wd A dT s' ∧ Q o s')
theorem ct_ofR {l : Launch} {s0 : State} {D : va_G} {tys : List (ClassId × FieldType)} {a0 : Array Value} {A : Nat → Nat} {s : PS} (G : GX l s0 D tys a0 dT) {mn : Nat} {ret : Option FieldType} {rm : Room} {vals : List Value} {Q : mb_O → PS → Prop} (hy : plainName (yA mn).cls = true) (hn : (lg_sl vals).length ≤ mNL (miB mn))
    (body : ∀ k, AX k mn dT → (kL k = l ∧ kS0 k = s0 ∧ kD k = D ∧ kR k = rm) → kTy k = tys → (kMe k).sig.returnType = ret → (∀ x ∈ (kC k).exceptionTable.toList, False) → kx_end k (fun o ws => ∃ s', ws = Wd A dT s' ∧ Q o s') rm.cells rm.slots → WS k 0 (lv_args 0 vals) [] (Wd A dT s) 0 0) : CTR l s0 D A dT mn ret rm vals s Q :=
  mb_of G.1 hy hn (fun k C e1 e2 e3 e4 e5 e6 e7 e8 e9 e10 e11 qe => body k ⟨C, ⟨e7, e6, e8⟩, fun t => by rw [e5]; exact G.2.1 t, by rw [e3]; exact G.2.2⟩ ⟨e1, e3, e4, e2⟩ e5 e9 e11 qe)
variable {A : Nat → Nat} {s : PS} {Q : mb_O → PS → Prop} {rm : Room} {ret : Option FieldType}
/-- a call on an object that was there before -/
theorem z_callK (X : AX k mn dT) {idx cn q : Nat} {As : List Value} (dd : decode (kCc k) pc = .ok (.invokevirtual idx, 3)) (W : cwX (yA mn).cls idx cn ret As.length) (hO : va_O (yA cn).cls q (mb_F (kS0 k)) (kS0 k) (kS0 k).heap) (hM : CTR (kL k) (kS0 k) (kD k) A dT cn ret rm (.ref q :: As) s Q) (hr : rmK k cn rm ce sl) (hw : (st.map fun v => v.category).sum ≤ 8)
    (h1 : ∀ v s', Q (.inl v) s' → WS k (pc + 3) lv (v.toList ++ st) (Wd A dT s') (ce + rm.cells) (sl + rm.slots)) (h2 : ∀ E s', Q (.inr E) s' → WX k pc lv st (Wd A dT s') E (ce + rm.cells) (sl + rm.slots)) : WS k pc lv (As.reverse ++ .ref q :: st) (Wd A dT s) ce sl := by
  obtain ⟨w1, w2, w3, w4, w5, w6⟩ := W
  obtain ⟨r1, r2, r3⟩ := hr
  have C := X.1
  intro H locs ls hP hD hS hl
  obtain ⟨cell, c1, c2, c3, -⟩ := ((hO.moved C.2.2.2.2.1.alike).kept (fun a ha _ => C.2.2.2.2.2.2.2.1 a ha)).kept (A := kF k) hS.2.1
  refine w_run (K := fun o ws => ∃ s', ws = Wd A dT s' ∧ Q o s') hl hS (vx_runV (C := (yA cn).cls) (As := As) (rest := st) ⟨C.1, C.2.1, C.2.2.1, C.2.2.2.1, kx_wd C⟩ hM ⟨cb_B C ⟨by rw [X.2.1.2.1]; exact w1, w2, w3, w4, r1, r2⟩, kx_wd C _ w5, kx_wd C _ w6⟩ ⟨mb_blind, ⟨cell, c1, c2, c3⟩, fun U hU hW => ⟨rfl, kx_B C hP hD hS U hU hW⟩⟩ rfl rfl hl.1 rfl ?_ dd r3) (fun v ws' hk => hk.elim (fun s' hq => by rw [hq.1]; exact h1 v s' hq.2)) (fun E ws' hk => hk.elim (fun s' hq => by rw [hq.1]; exact h2 E s' hq.2))
  simpa using hw
theorem z_callSK (X : AX k mn dT) {idx cn : Nat} {As : List Value} (dd : decode (kCc k) pc = .ok (.invokestatic idx, 3)) (W : csX (yA mn).cls idx cn ret As.length) (hM : CTR (kL k) (kS0 k) (kD k) A dT cn ret rm As s Q) (hr : rmK k cn rm ce sl) (hw : (st.map fun v => v.category).sum ≤ 8)
    (h1 : ∀ v s', Q (.inl v) s' → WS k (pc + 3) lv (v.toList ++ st) (Wd A dT s') (ce + rm.cells) (sl + rm.slots)) (h2 : ∀ E s', Q (.inr E) s' → WX k pc lv st (Wd A dT s') E (ce + rm.cells) (sl + rm.slots)) : WS k pc lv (As.reverse ++ st) (Wd A dT s) ce sl := by
  obtain ⟨w1, w2, w3, w4, w5⟩ := W
  obtain ⟨r1, r2, r3⟩ := hr
  exact w_callS (K := fun o ws => ∃ s', ws = Wd A dT s' ∧ Q o s') (rm := rm) X.1 ⟨by rw [X.2.1.2.1]; exact w1, w2, w3, w4, r1, r2⟩ w5 hM rfl hw r3 dd (fun v ws' hk => hk.elim (fun s' hq => by rw [hq.1]; exact h1 v s' hq.2)) (fun E ws' hk => hk.elim (fun s' hq => by rw [hq.1]; exact h2 E s' hq.2))
end ZK
section M84
variable {l : Launch} {s0 : State} {D : va_G} {tys : List (ClassId × FieldType)} {a0 : Array Value} {A : Nat → Nat} {dT : Nat → ClassId} {s : PS}
set_option maxRecDepth 4000 in
theorem j_coder (G : GX l s0 D tys a0 dT) (SF : SF0 s0) {q1 n1 : Nat} (hs1 : StrA s0 q1 n1) (I : Bd s)  : CTR l s0 D A dT 304 (some .byte) (rmN 304) [.ref q1] s (fun o t => s = t ∧ ∃ e, o = .inl (some (.int (Int32.ofInt e))) ∧ rng e ∧ (e = 0)) := by
  refine ct_ofR G (by decide) (Nat.le_of_ble_eq_true rfl) (fun k X E ET hRt hXt q => ?_)
  show WS k 0 [(0, .ref q1)] [] _ 0 0
  have F : Fm [] [] s s := fm_rf _ _ s
  obtain ⟨q2, g1, hn1, hg1, hO1, hc1, hv1, hT1⟩ := id hs1
  have hO1k := hO1
  have hc1k := hc1
  have hv1k := hv1
  have hT1k := hT1
  have hZ1k := SF.1
  rw [← E.2.1] at hO1k hc1k hv1k hT1k hZ1k
  refine w_getsK X hZ1k (by rw [X.2.1.2.1]; exact chkW_ok (p := (5, 18)) (by decide +kernel)) (show decode (kCc k) 0 = .ok (.getstatic 38, 3) by rw [X.2.1.1]; decide +kernel) ?_
  refine y_if_eq X.1 (t := 13) (show decode (kCc k) 3 = .ok (.ifCond .eq 10, 3) by rw [X.2.1.1]; decide +kernel) (by decide) (by decide) (fun g1 => ?_) (fun g1 => ?_)
  ·
    refine w_iconst X.1 (show decode (kCc k) 13 = .ok (.iconst 1, 1) by rw [X.2.1.1]; decide +kernel) ?_
    exact w_iret X.1 q hRt (by decide +kernel) (show decode (kCc k) 14 = .ok (.ireturn, 1) by rw [X.2.1.1]; decide +kernel) (Nat.zero_le _) (Nat.zero_le _) ⟨_, rfl, rfl, 1, rfl, (by decide), by omega⟩
  ·
    refine w_aload_n X.1 (x := q1) (show decode (kCc k) 6 = .ok (.aload_n 0, 1) by rw [X.2.1.1]; decide +kernel) (List.Mem.head _) ?_
    refine w_getfK X hc1k (by rw [X.2.1.2.1]; exact chkW_ok (p := (11, 3)) (by decide +kernel)) (show decode (kCc k) 7 = .ok (.getfield 15, 3) by rw [X.2.1.1]; decide +kernel) ?_
    refine w_goto X.1 (t := 14) (show decode (kCc k) 10 = .ok (.goto 4, 3) by rw [X.2.1.1]; decide +kernel) (by decide) ?_
    exact w_iret X.1 q hRt (by decide +kernel) (show decode (kCc k) 14 = .ok (.ireturn, 1) by rw [X.2.1.1]; decide +kernel) (Nat.zero_le _) (Nat.zero_le _) ⟨_, rfl, rfl, 0, rfl, (by decide), by decide⟩
set_option maxRecDepth 4000 in
theorem j_lat1 (G : GX l s0 D tys a0 dT) (SF : SF0 s0) {q1 n1 : Nat} (hs1 : StrA s0 q1 n1) (I : Bd s)  : CTR l s0 D A dT 305 (some .boolean) (rmN 305) [.ref q1] s (fun o t => s = t ∧ ∃ e, o = .inl (some (.int (Int32.ofInt e))) ∧ rng e ∧ (e = 1)) := by
  refine ct_ofR G (by decide) (Nat.le_of_ble_eq_true rfl) (fun k X E ET hRt hXt q => ?_)
  show WS k 0 [(0, .ref q1)] [] _ 0 0
  have F : Fm [] [] s s := fm_rf _ _ s
  obtain ⟨q2, g1, hn1, hg1, hO1, hc1, hv1, hT1⟩ := id hs1
  have hO1k := hO1
  have hc1k := hc1
  have hv1k := hv1
  have hT1k := hT1
  have hZ1k := SF.1
  rw [← E.2.1] at hO1k hc1k hv1k hT1k hZ1k
  refine w_getsK X hZ1k (by rw [X.2.1.2.1]; exact chkW_ok (p := (5, 18)) (by decide +kernel)) (show decode (kCc k) 0 = .ok (.getstatic 38, 3) by rw [X.2.1.1]; decide +kernel) ?_
  refine y_if_eq X.1 (t := 17) (show decode (kCc k) 3 = .ok (.ifCond .eq 14, 3) by rw [X.2.1.1]; decide +kernel) (by decide) (by decide) (fun g1 => ?_) (fun g1 => ?_)
  ·
    refine w_iconst X.1 (show decode (kCc k) 17 = .ok (.iconst 0, 1) by rw [X.2.1.1]; decide +kernel) ?_
    exact w_iret X.1 q hRt (nar_ret (by first | exact Or.inl (by decide) | omega)) (show decode (kCc k) 18 = .ok (.ireturn, 1) by rw [X.2.1.1]; decide +kernel) (Nat.zero_le _) (Nat.zero_le _) ⟨_, rfl, rfl, 0, rfl, (by decide), by omega⟩
  ·
    refine w_aload_n X.1 (x := q1) (show decode (kCc k) 6 = .ok (.aload_n 0, 1) by rw [X.2.1.1]; decide +kernel) (List.Mem.head _) ?_
    refine w_getfK X hc1k (by rw [X.2.1.2.1]; exact chkW_ok (p := (11, 3)) (by decide +kernel)) (show decode (kCc k) 7 = .ok (.getfield 15, 3) by rw [X.2.1.1]; decide +kernel) ?_
    have N2 : ∀ e3 : Int, ((((0 : Int) ≠ (0 : Int)) ∧ e3 = 0) ∨ (((0 : Int) = (0 : Int)) ∧ e3 = 1)) → WS k 18 [(0, .ref q1)] [.int (Int32.ofInt e3)] (Wd A dT s) 0 0 := by
      intro e3 he3
      have re3 : 0 ≤ e3 ∧ e3 ≤ 1 := by omega
      exact w_iret X.1 q hRt (nar_ret (by first | exact oq_31e518ae re3.2 re3.1 | omega)) (show decode (kCc k) 18 = .ok (.ireturn, 1) by rw [X.2.1.1]; decide +kernel) (Nat.zero_le _) (Nat.zero_le _) ⟨_, rfl, rfl, e3, rfl, ⟨by first | exact oq_fa4e5087 re3.1 | omega, by first | exact oq_22e1e6b0 re3.2 | omega⟩, by first | exact oq_0e812846 re3.2 he3 | omega⟩
    refine y_if_ne X.1 (t := 17) (show decode (kCc k) 10 = .ok (.ifCond .ne 7, 3) by rw [X.2.1.1]; decide +kernel) (by decide) (by decide) (fun g4 => ?_) (fun g4 => ?_)
    ·
      refine w_iconst X.1 (show decode (kCc k) 17 = .ok (.iconst 0, 1) by rw [X.2.1.1]; decide +kernel) ?_
      exact N2 _ (Or.inl ⟨g4, rfl⟩)
    ·
      refine w_iconst X.1 (show decode (kCc k) 13 = .ok (.iconst 1, 1) by rw [X.2.1.1]; decide +kernel) ?_
      refine w_goto X.1 (t := 18) (show decode (kCc k) 14 = .ok (.goto 4, 3) by rw [X.2.1.1]; decide +kernel) (by decide) ?_
      exact N2 _ (Or.inr (⟨g4, rfl⟩))
set_option maxRecDepth 4000 in
theorem j_len (G : GX l s0 D tys a0 dT) (SF : SF0 s0) {q1 n1 : Nat} (hs1 : StrA s0 q1 n1) (I : Bd s)  : CTR l s0 D A dT 302 (some .int) (rmN 302) [.ref q1] s (fun o t => s = t ∧ ∃ e, o = .inl (some (.int (Int32.ofInt e))) ∧ rng e ∧ (e = (n1 : Int))) := by
  refine ct_ofR G (by decide) (Nat.le_of_ble_eq_true rfl) (fun k X E ET hRt hXt q => ?_)
  show WS k 0 [(0, .ref q1)] [] _ 0 0
  have F : Fm [] [] s s := fm_rf _ _ s
  obtain ⟨q2, g1, hn1, hg1, hO1, hc1, hv1, hT1⟩ := id hs1
  have hO1k := hO1
  have hc1k := hc1
  have hv1k := hv1
  have hT1k := hT1
  have hZ1k := SF.1
  rw [← E.2.1] at hO1k hc1k hv1k hT1k hZ1k
  refine w_aload_n X.1 (x := q1) (show decode (kCc k) 0 = .ok (.aload_n 0, 1) by rw [X.2.1.1]; decide +kernel) (List.Mem.head _) ?_
  refine w_getfK X hv1k (by rw [X.2.1.2.1]; exact chkW_ok (p := (11, 2)) (by decide +kernel)) (show decode (kCc k) 1 = .ok (.getfield 9, 3) by rw [X.2.1.1]; decide +kernel) ?_
  refine y_tlen X (show decode (kCc k) 4 = .ok (.arraylength, 1) by rw [X.2.1.1]; decide +kernel) hT1k (n := (n1 : Int)) (len_of hn1) ?_
  refine w_aload_n X.1 (x := q1) (show decode (kCc k) 5 = .ok (.aload_n 0, 1) by rw [X.2.1.1]; decide +kernel) (List.Mem.head _) ?_
  refine z_callK X (rm := rmN 304) (As := []) (st := [.int (Int32.ofInt (n1 : Int))]) (show decode (kCc k) 6 = .ok (.invokevirtual 335, 3) by rw [X.2.1.1]; decide +kernel) cw_cod hO1k (by rw [E.1, E.2.1, E.2.2.1]; exact j_coder G SF hs1 I) ⟨by rw [E.2.2.2]; exact (show (rmN 304).frames + 1 ≤ (rmN 302).frames by decide), by rw [E.2.2.2]; exact (show 8 + (mNL (miB 304) + 11) + (rmN 304).locals ≤ (rmN 302).locals by decide), by rw [E.2.2.2]; exact (show 0 + (rmN 304).cells ≤ (rmN 302).cells by decide), by rw [E.2.2.2]; exact (show 0 + (rmN 304).slots ≤ (rmN 302).slots by decide)⟩ (Nat.le_of_ble_eq_true rfl) (fun vv s1 hq => ?_) (fun ee s1 hq => ?_)
  rotate_left
  · obtain ⟨rfl, e2, hv, hrs1, hps1⟩ := hq; cases hv
  obtain ⟨rfl, e2, hv, hrs1, hps1⟩ := hq
  cases hv
  show WS k 9 [(0, .ref q1)] [.int (Int32.ofInt e2), .int (Int32.ofInt (n1 : Int))] (Wd A dT s) 0 0
  rw [show e2 = 0 by omega]
  refine w_ishr X.1 (show decode (kCc k) 9 = .ok (.ishr, 1) by rw [X.2.1.1]; decide +kernel) ?_
  rw [shr0 hn1]
  exact w_iret X.1 q hRt rfl (show decode (kCc k) 10 = .ok (.ireturn, 1) by rw [X.2.1.1]; decide +kernel) (Nat.zero_le _) (Nat.zero_le _) ⟨_, rfl, rfl, (n1 : Int), rfl, ⟨by omega, by omega⟩, by omega⟩
set_option maxRecDepth 4000 in
theorem j_ciR (G : GX l s0 D tys a0 dT) {q1 : Nat} (I : Bd s) {x y : Int} (p0 : 0 ≤ x ∧ x < y) (p1 : y ≤ 100) : CTR l s0 D A dT 313 (some .int) (rmN 313) [.int (Int32.ofInt x), .int (Int32.ofInt y), .ref q1] s (fun o t => s = t ∧ ∃ e, o = .inl (some (.int (Int32.ofInt e))) ∧ rng e ∧ (e = x)) := by
  refine ct_ofR G (by decide) (Nat.le_of_ble_eq_true rfl) (fun k X E ET hRt hXt q => ?_)
  show WS k 0 [(0, .int (Int32.ofInt x)), (1, .int (Int32.ofInt y)), (2, .ref q1)] [] _ 0 0
  have F : Fm [] [] s s := fm_rf _ _ s
  refine w_iload_n X.1 (x := Int32.ofInt x) (show decode (kCc k) 0 = .ok (.iload_n 0, 1) by rw [X.2.1.1]; decide +kernel) (List.Mem.head _) ?_
  refine y_if_lt X.1 (t := 9) (show decode (kCc k) 1 = .ok (.ifCond .lt 8, 3) by rw [X.2.1.1]; decide +kernel) (by decide) ⟨by first | exact oq_fa4e5087 p0.1 | omega, by first | exact oq_fbb67bea p0.2 p1 | omega⟩ (fun g1 => ?_) (fun g1 => ?_)
  ·
    exfalso
    omega
  ·
    refine w_iload_n X.1 (x := Int32.ofInt x) (show decode (kCc k) 4 = .ok (.iload_n 0, 1) by rw [X.2.1.1]; decide +kernel) (List.Mem.head _) ?_
    refine w_iload_n X.1 (x := Int32.ofInt y) (show decode (kCc k) 5 = .ok (.iload_n 1, 1) by rw [X.2.1.1]; decide +kernel) (List.Mem.tail _ (List.Mem.head _)) ?_
    refine y_icmp_lt X.1 (t := 16) (show decode (kCc k) 6 = .ok (.if_icmp .lt 10, 3) by rw [X.2.1.1]; decide +kernel) (by decide) ⟨by first | exact oq_fa4e5087 g1 | omega, by first | exact oq_fbb67bea p0.2 p1 | omega⟩ ⟨by first | exact oq_9d8ce83d p0.2 g1 | omega, by first | exact oq_f0661bc9 p1 | omega⟩ (fun g2 => ?_) (fun g2 => ?_)
    ·
      refine w_iload_n X.1 (x := Int32.ofInt x) (show decode (kCc k) 16 = .ok (.iload_n 0, 1) by rw [X.2.1.1]; decide +kernel) (List.Mem.head _) ?_
      exact w_iret X.1 q hRt rfl (show decode (kCc k) 17 = .ok (.ireturn, 1) by rw [X.2.1.1]; decide +kernel) (Nat.zero_le _) (Nat.zero_le _) ⟨_, rfl, rfl, x, rfl, ⟨by first | exact oq_fa4e5087 g1 | omega, by first | exact oq_fbb67bea g2 p1 | omega⟩, by omega⟩
    ·
      exfalso
      omega
set_option maxRecDepth 4000 in
theorem j_ciN (G : GX l s0 D tys a0 dT) (I : Bd s) {x y : Int} (p0 : 0 ≤ x ∧ x < y) (p1 : y ≤ 100) : CTR l s0 D A dT 313 (some .int) (rmN 313) [.int (Int32.ofInt x), .int (Int32.ofInt y), .null] s (fun o t => s = t ∧ ∃ e, o = .inl (some (.int (Int32.ofInt e))) ∧ rng e ∧ (e = x)) := by
  refine ct_ofR G (by decide) (Nat.le_of_ble_eq_true rfl) (fun k X E ET hRt hXt q => ?_)
  show WS k 0 [(0, .int (Int32.ofInt x)), (1, .int (Int32.ofInt y)), (2, .null)] [] _ 0 0
  have F : Fm [] [] s s := fm_rf _ _ s
  refine w_iload_n X.1 (x := Int32.ofInt x) (show decode (kCc k) 0 = .ok (.iload_n 0, 1) by rw [X.2.1.1]; decide +kernel) (List.Mem.head _) ?_
  refine y_if_lt X.1 (t := 9) (show decode (kCc k) 1 = .ok (.ifCond .lt 8, 3) by rw [X.2.1.1]; decide +kernel) (by decide) ⟨by first | exact oq_fa4e5087 p0.1 | omega, by first | exact oq_fbb67bea p0.2 p1 | omega⟩ (fun g1 => ?_) (fun g1 => ?_)
  ·
    exfalso
    omega
  ·
    refine w_iload_n X.1 (x := Int32.ofInt x) (show decode (kCc k) 4 = .ok (.iload_n 0, 1) by rw [X.2.1.1]; decide +kernel) (List.Mem.head _) ?_
    refine w_iload_n X.1 (x := Int32.ofInt y) (show decode (kCc k) 5 = .ok (.iload_n 1, 1) by rw [X.2.1.1]; decide +kernel) (List.Mem.tail _ (List.Mem.head _)) ?_
    refine y_icmp_lt X.1 (t := 16) (show decode (kCc k) 6 = .ok (.if_icmp .lt 10, 3) by rw [X.2.1.1]; decide +kernel) (by decide) ⟨by first | exact oq_fa4e5087 g1 | omega, by first | exact oq_fbb67bea p0.2 p1 | omega⟩ ⟨by first | exact oq_9d8ce83d p0.2 g1 | omega, by first | exact oq_f0661bc9 p1 | omega⟩ (fun g2 => ?_) (fun g2 => ?_)
    ·
      refine w_iload_n X.1 (x := Int32.ofInt x) (show decode (kCc k) 16 = .ok (.iload_n 0, 1) by rw [X.2.1.1]; decide +kernel) (List.Mem.head _) ?_
      exact w_iret X.1 q hRt rfl (show decode (kCc k) 17 = .ok (.ireturn, 1) by rw [X.2.1.1]; decide +kernel) (Nat.zero_le _) (Nat.zero_le _) ⟨_, rfl, rfl, x, rfl, ⟨by first | exact oq_fa4e5087 g1 | omega, by first | exact oq_fbb67bea g2 p1 | omega⟩, by omega⟩
    ·
      exfalso
      omega
set_option maxRecDepth 4000 in
theorem j_chk (G : GX l s0 D tys a0 dT) (SF : SF0 s0) (I : Bd s) {x y : Int} (p0 : 0 ≤ x ∧ x < y) (p1 : y ≤ 100) : CTR l s0 D A dT 306 none (rmN 306) [.int (Int32.ofInt x), .int (Int32.ofInt y)] s (fun o t => Bd t ∧ Fm [] [] s t ∧ o = .inl none ∧ (True)) := by
  refine ct_ofR G (by decide) (Nat.le_of_ble_eq_true rfl) (fun k X E ET hRt hXt q => ?_)
  show WS k 0 [(0, .int (Int32.ofInt x)), (1, .int (Int32.ofInt y))] [] _ 0 0
  have F : Fm [] [] s s := fm_rf _ _ s
  have hQ1k := SF.2
  rw [← E.2.1] at hQ1k
  refine w_iload_n X.1 (x := Int32.ofInt x) (show decode (kCc k) 0 = .ok (.iload_n 0, 1) by rw [X.2.1.1]; decide +kernel) (List.Mem.head _) ?_
  refine w_iload_n X.1 (x := Int32.ofInt y) (show decode (kCc k) 1 = .ok (.iload_n 1, 1) by rw [X.2.1.1]; decide +kernel) (List.Mem.tail _ (List.Mem.head _)) ?_
  rcases hQ1k with hN | ⟨q1, hN⟩
  ·
    refine w_getsK X hN (by rw [X.2.1.2.1]; exact chkW_ok (p := (5, 34)) (by decide +kernel)) (show decode (kCc k) 2 = .ok (.getstatic 1053, 3) by rw [X.2.1.1]; decide +kernel) ?_
    refine z_callSK X (rm := rmN 313) (As := [.int (Int32.ofInt x), .int (Int32.ofInt y), .null]) (st := []) (show decode (kCc k) 5 = .ok (.invokestatic 1059, 3) by rw [X.2.1.1]; decide +kernel) cw_pre (by rw [E.1, E.2.1, E.2.2.1]; exact j_ciN G I (by first | exact ⟨p0.1, p0.2⟩ | omega) (by first | exact p1 | omega)) ⟨by rw [E.2.2.2]; exact (show (rmN 313).frames + 1 ≤ (rmN 306).frames by decide), by rw [E.2.2.2]; exact (show 8 + (mNL (miB 313) + 11) + (rmN 313).locals ≤ (rmN 306).locals by decide), by rw [E.2.2.2]; exact (show 0 + (rmN 313).cells ≤ (rmN 306).cells by decide), by rw [E.2.2.2]; exact (show 0 + (rmN 313).slots ≤ (rmN 306).slots by decide)⟩ (Nat.le_of_ble_eq_true rfl) (fun vv s1 hq => ?_) (fun ee s1 hq => ?_)
    rotate_left
    · obtain ⟨rfl, e2, hv, hrs1, hps1⟩ := hq; cases hv
    obtain ⟨rfl, e2, hv, hrs1, hps1⟩ := hq
    cases hv
    show WS k 8 [(0, .int (Int32.ofInt x)), (1, .int (Int32.ofInt y))] [.int (Int32.ofInt e2)] (Wd A dT s) 0 0
    refine w_pop X.1 (show decode (kCc k) 8 = .ok (.pop, 1) by rw [X.2.1.1]; decide +kernel) rfl ?_
    exact w_vret X.1 q hRt (show decode (kCc k) 9 = .ok (.return_, 1) by rw [X.2.1.1]; decide +kernel) (Nat.zero_le _) (Nat.zero_le _) ⟨_, rfl, I, F, rfl, trivial⟩
  ·
    refine w_getsK X hN (by rw [X.2.1.2.1]; exact chkW_ok (p := (5, 34)) (by decide +kernel)) (show decode (kCc k) 2 = .ok (.getstatic 1053, 3) by rw [X.2.1.1]; decide +kernel) ?_
    refine z_callSK X (rm := rmN 313) (As := [.int (Int32.ofInt x), .int (Int32.ofInt y), .ref q1]) (st := []) (show decode (kCc k) 5 = .ok (.invokestatic 1059, 3) by rw [X.2.1.1]; decide +kernel) cw_pre (by rw [E.1, E.2.1, E.2.2.1]; exact j_ciR G I (by first | exact ⟨p0.1, p0.2⟩ | omega) (by first | exact p1 | omega)) ⟨by rw [E.2.2.2]; exact (show (rmN 313).frames + 1 ≤ (rmN 306).frames by decide), by rw [E.2.2.2]; exact (show 8 + (mNL (miB 313) + 11) + (rmN 313).locals ≤ (rmN 306).locals by decide), by rw [E.2.2.2]; exact (show 0 + (rmN 313).cells ≤ (rmN 306).cells by decide), by rw [E.2.2.2]; exact (show 0 + (rmN 313).slots ≤ (rmN 306).slots by decide)⟩ (Nat.le_of_ble_eq_true rfl) (fun vv s3 hq => ?_) (fun ee s3 hq => ?_)
    rotate_left
    · obtain ⟨rfl, e4, hv, hrs3, hps3⟩ := hq; cases hv
    obtain ⟨rfl, e4, hv, hrs3, hps3⟩ := hq
    cases hv
    show WS k 8 [(0, .int (Int32.ofInt x)), (1, .int (Int32.ofInt y))] [.int (Int32.ofInt e4)] (Wd A dT s) 0 0
    refine w_pop X.1 (show decode (kCc k) 8 = .ok (.pop, 1) by rw [X.2.1.1]; decide +kernel) rfl ?_
    exact w_vret X.1 q hRt (show decode (kCc k) 9 = .ok (.return_, 1) by rw [X.2.1.1]; decide +kernel) (Nat.zero_le _) (Nat.zero_le _) ⟨_, rfl, I, F, rfl, trivial⟩
set_option maxRecDepth 4000 in
theorem j_latc (G : GX l s0 D tys a0 dT) (SF : SF0 s0) {q1 n1 : Nat} {g1 : Nat → Int} (hn1 : n1 ≤ 6) (hg1 : gOK g1) (hT1 : va_T .byte q1 n1 (fun j => .int (Int32.ofInt (g1 j))) (mb_F s0) s0 s0.heap) (I : Bd s) {x : Int} (p0 : 0 ≤ x ∧ x < (n1 : Int)) : CTR l s0 D A dT 307 (some .char) (rmN 307) [.ref q1, .int (Int32.ofInt x)] s (fun o t => Bd t ∧ Fm [] [] s t ∧ ∃ e, o = .inl (some (.int (Int32.ofInt e))) ∧ rng e ∧ (0 ≤ e ∧ e ≤ 127)) := by
  refine ct_ofR G (by decide) (Nat.le_of_ble_eq_true rfl) (fun k X E ET hRt hXt q => ?_)
  show WS k 0 [(0, .ref q1), (1, .int (Int32.ofInt x))] [] _ 0 0
  have F : Fm [] [] s s := fm_rf _ _ s
  have hT1k := hT1
  rw [← E.2.1] at hT1k
  refine w_iload_n X.1 (x := Int32.ofInt x) (show decode (kCc k) 0 = .ok (.iload_n 1, 1) by rw [X.2.1.1]; decide +kernel) (List.Mem.tail _ (List.Mem.head _)) ?_
  refine w_aload_n X.1 (x := q1) (show decode (kCc k) 1 = .ok (.aload_n 0, 1) by rw [X.2.1.1]; decide +kernel) (List.Mem.head _) ?_
  refine y_tlen X (show decode (kCc k) 2 = .ok (.arraylength, 1) by rw [X.2.1.1]; decide +kernel) hT1k (n := (n1 : Int)) (len_of hn1) ?_
  refine z_callSK X (rm := rmN 306) (As := [.int (Int32.ofInt x), .int (Int32.ofInt (n1 : Int))]) (st := []) (show decode (kCc k) 3 = .ok (.invokestatic 9, 3) by rw [X.2.1.1]; decide +kernel) cw_chk (by rw [E.1, E.2.1, E.2.2.1]; exact j_chk G SF I (by omega) (by omega)) ⟨by rw [E.2.2.2]; exact (show (rmN 306).frames + 1 ≤ (rmN 307).frames by decide), by rw [E.2.2.2]; exact (show 8 + (mNL (miB 306) + 11) + (rmN 306).locals ≤ (rmN 307).locals by decide), by rw [E.2.2.2]; exact (show 0 + (rmN 306).cells ≤ (rmN 307).cells by decide), by rw [E.2.2.2]; exact (show 0 + (rmN 306).slots ≤ (rmN 307).slots by decide)⟩ (Nat.le_of_ble_eq_true rfl) (fun vv s1 hq => ?_) (fun ee s1 hq => ?_)
  rotate_left
  · obtain ⟨Is1, Fs1, hv, hps1⟩ := hq; cases hv
  obtain ⟨Is1, Fs1, hv, hps1⟩ := hq
  cases hv
  have Gs1 := fm_ts F Fs1 (by decide) (by decide)
  show WS k 6 [(0, .ref q1), (1, .int (Int32.ofInt x))] [] (Wd A dT s1) 0 0
  refine w_aload_n X.1 (x := q1) (show decode (kCc k) 6 = .ok (.aload_n 0, 1) by rw [X.2.1.1]; decide +kernel) (List.Mem.head _) ?_
  refine w_iload_n X.1 (x := Int32.ofInt x) (show decode (kCc k) 7 = .ok (.iload_n 1, 1) by rw [X.2.1.1]; decide +kernel) (List.Mem.tail _ (List.Mem.head _)) ?_
  refine w_tbK X hT1k hg1 (show 0 ≤ x ∧ x < (n1 : Int) by omega) hn1 (show decode (kCc k) 8 = .ok (.baload, 1) by rw [X.2.1.1]; decide +kernel) (fun e3 he3 ie3 => ?_)
  refine w_255 X (show 0 ≤ e3 ∧ e3 ≤ 127 by omega) (show decode (kCc k) 9 = .ok (.sipush 255, 3) by rw [X.2.1.1]; decide +kernel) (show decode (kCc k) 12 = .ok (.iand, 1) by rw [X.2.1.1]; decide +kernel) (show decode (kCc k) 13 = .ok (.i2c, 1) by rw [X.2.1.1]; decide +kernel) ?_
  exact w_iret X.1 q hRt (nar_ch (by omega)) (show decode (kCc k) 14 = .ok (.ireturn, 1) by rw [X.2.1.1]; decide +kernel) (Nat.zero_le _) (Nat.zero_le _) ⟨_, rfl, Is1, Gs1, e3, rfl, ⟨by omega, by omega⟩, by omega⟩
set_option maxRecDepth 4000 in
theorem j_char (G : GX l s0 D tys a0 dT) (SF : SF0 s0) {q1 n1 : Nat} (hs1 : StrA s0 q1 n1) (I : Bd s) {x : Int} (p0 : 0 ≤ x ∧ x < (n1 : Int)) : CTR l s0 D A dT 303 (some .char) (rmN 303) [.ref q1, .int (Int32.ofInt x)] s (fun o t => Bd t ∧ Fm [] [] s t ∧ ∃ e, o = .inl (some (.int (Int32.ofInt e))) ∧ rng e ∧ (0 ≤ e ∧ e ≤ 127)) := by
  refine ct_ofR G (by decide) (Nat.le_of_ble_eq_true rfl) (fun k X E ET hRt hXt q => ?_)
  show WS k 0 [(0, .ref q1), (1, .int (Int32.ofInt x))] [] _ 0 0
  have F : Fm [] [] s s := fm_rf _ _ s
  obtain ⟨q2, g1, hn1, hg1, hO1, hc1, hv1, hT1⟩ := id hs1
  have hO1k := hO1
  have hc1k := hc1
  have hv1k := hv1
  have hT1k := hT1
  have hZ1k := SF.1
  rw [← E.2.1] at hO1k hc1k hv1k hT1k hZ1k
  refine w_aload_n X.1 (x := q1) (show decode (kCc k) 0 = .ok (.aload_n 0, 1) by rw [X.2.1.1]; decide +kernel) (List.Mem.head _) ?_
  refine z_callK X (rm := rmN 305) (As := []) (st := []) (show decode (kCc k) 1 = .ok (.invokevirtual 492, 3) by rw [X.2.1.1]; decide +kernel) cw_lat hO1k (by rw [E.1, E.2.1, E.2.2.1]; exact j_lat1 G SF hs1 I) ⟨by rw [E.2.2.2]; exact (show (rmN 305).frames + 1 ≤ (rmN 303).frames by decide), by rw [E.2.2.2]; exact (show 8 + (mNL (miB 305) + 11) + (rmN 305).locals ≤ (rmN 303).locals by decide), by rw [E.2.2.2]; exact (show 0 + (rmN 305).cells ≤ (rmN 303).cells by decide), by rw [E.2.2.2]; exact (show 0 + (rmN 305).slots ≤ (rmN 303).slots by decide)⟩ (Nat.le_of_ble_eq_true rfl) (fun vv s1 hq => ?_) (fun ee s1 hq => ?_)
  rotate_left
  · obtain ⟨rfl, e2, hv, hrs1, hps1⟩ := hq; cases hv
  obtain ⟨rfl, e2, hv, hrs1, hps1⟩ := hq
  cases hv
  show WS k 4 [(0, .ref q1), (1, .int (Int32.ofInt x))] [.int (Int32.ofInt e2)] (Wd A dT s) 0 0
  refine y_if_eq X.1 (t := 16) (show decode (kCc k) 4 = .ok (.ifCond .eq 12, 3) by rw [X.2.1.1]; decide +kernel) (by decide) ⟨by omega, by omega⟩ (fun g3 => ?_) (fun g3 => ?_)
  ·
    exfalso
    omega
  ·
    refine w_aload_n X.1 (x := q1) (show decode (kCc k) 7 = .ok (.aload_n 0, 1) by rw [X.2.1.1]; decide +kernel) (List.Mem.head _) ?_
    refine w_getfK X hv1k (by rw [X.2.1.2.1]; exact chkW_ok (p := (11, 2)) (by decide +kernel)) (show decode (kCc k) 8 = .ok (.getfield 9, 3) by rw [X.2.1.1]; decide +kernel) ?_
    refine w_iload_n X.1 (x := Int32.ofInt x) (show decode (kCc k) 11 = .ok (.iload_n 1, 1) by rw [X.2.1.1]; decide +kernel) (List.Mem.tail _ (List.Mem.head _)) ?_
    refine z_callSK X (rm := rmN 307) (As := [.ref q2, .int (Int32.ofInt x)]) (st := []) (show decode (kCc k) 12 = .ok (.invokestatic 495, 3) by rw [X.2.1.1]; decide +kernel) cw_lch (by rw [E.1, E.2.1, E.2.2.1]; exact j_latc G SF hn1 hg1 hT1 I (by first | exact ⟨p0.1, p0.2⟩ | omega)) ⟨by rw [E.2.2.2]; exact (show (rmN 307).frames + 1 ≤ (rmN 303).frames by decide), by rw [E.2.2.2]; exact (show 8 + (mNL (miB 307) + 11) + (rmN 307).locals ≤ (rmN 303).locals by decide), by rw [E.2.2.2]; exact (show 0 + (rmN 307).cells ≤ (rmN 303).cells by decide), by rw [E.2.2.2]; exact (show 0 + (rmN 307).slots ≤ (rmN 303).slots by decide)⟩ (Nat.le_of_ble_eq_true rfl) (fun vv s4 hq => ?_) (fun ee s4 hq => ?_)
    rotate_left
    · obtain ⟨Is4, Fs4, e5, hv, hrs4, hps4⟩ := hq; cases hv
    obtain ⟨Is4, Fs4, e5, hv, hrs4, hps4⟩ := hq
    cases hv
    have Gs4 := fm_ts F Fs4 (by decide) (by decide)
    show WS k 15 [(0, .ref q1), (1, .int (Int32.ofInt x))] [.int (Int32.ofInt e5)] (Wd A dT s4) 0 0
    exact w_iret X.1 q hRt (nar_ch (by omega)) (show decode (kCc k) 15 = .ok (.ireturn, 1) by rw [X.2.1.1]; decide +kernel) (Nat.zero_le _) (Nat.zero_le _) ⟨_, rfl, Is4, Gs4, e5, rfl, ⟨by omega, by omega⟩, by omega⟩
set_option maxRecDepth 4000 in
theorem c10_says (G : GX l s0 D tys a0 dT) (SF : SF0 s0) {q1 n1 : Nat} (hs1 : StrA s0 q1 n1) (I : Bd s) (p0 : iI s 4 ≤ iI s 2) : CT l s0 D A dT 131 (rmN 131) [.ref (A 1), .ref q1] s (fun o t => Bd t ∧ Fm [] [] s t ∧ ∃ e, o = .inl (some (.int (Int32.ofInt e))) ∧ rng e ∧ (e = 0 ∨ e = 1)) := by
  refine ct_ofX G (by decide) (Nat.le_of_ble_eq_true rfl) (fun k X E ET hRt hXt q => ?_)
  show WS k 0 [(0, .ref (A 1)), (1, .ref q1)] [] _ 0 0
  have F : Fm [] [] s s := fm_rf _ _ s
  obtain ⟨q2, g1, hn1, hg1, hO1, hc1, hv1, hT1⟩ := id hs1
  have hO1k := hO1
  have hc1k := hc1
  have hv1k := hv1
  have hT1k := hT1
  have hZ1k := SF.1
  rw [← E.2.1] at hO1k hc1k hv1k hT1k hZ1k
  have b1 : (0 : Int) ≤ iI s 2 ∧ iI s 2 ≤ 200 := I.1 2
  have b2 : (0 : Int) ≤ iI s 4 ∧ iI s 4 ≤ 200 := I.1 4
  have L29 : ∀ (n : Nat) (t : PS) (c : Int), Bd t → Fm [] [] s t → (0 ≤ c ∧ c ≤ (n1 : Int) ∧ iI t 2 - iI t 4 = (n1 : Int) ∧ n1 ≤ 6) → ((n1 : Int) - c : Int).toNat < n → (∀ (t' : PS) (c' : Int), Bd t' → Fm [] [] s t' → (0 ≤ c' ∧ c' ≤ (n1 : Int) ∧ iI t' 2 - iI t' 4 = (n1 : Int) ∧ n1 ≤ 6) → WS k 64 [(0, .ref (A 1)), (1, .ref q1), (2, .int (Int32.ofInt c'))] [] (Wd A dT t') 0 0) → WS k 29 [(0, .ref (A 1)), (1, .ref q1), (2, .int (Int32.ofInt c))] [] (Wd A dT t) 0 0 := by
    intro n
    induction n with
    | zero =>
      intro t c I F hi hm kx
      exact absurd hm (Nat.not_lt_zero _)
    | succ n ih =>
      intro t c I F hi hm kx
      have b1001 : (0 : Int) ≤ iI t 2 ∧ iI t 2 ≤ 200 := I.1 2
      have b1002 : (0 : Int) ≤ iI t 4 ∧ iI t 4 ≤ 200 := I.1 4
      refine z_load_n X (x := c) (show cdA 131 29 = some (.iload_n 2, 1, 0, 0, 0) from rfl) (List.Mem.tail _ (List.Mem.tail _ (List.Mem.head _))) ?_
      refine z_aload_n X (x := q1) (show cdA 131 30 = some (.aload_n 1, 1, 0, 0, 0) from rfl) (List.Mem.tail _ (List.Mem.head _)) ?_
      refine z_callK X (rm := rmN 302) (As := []) (st := [.int (Int32.ofInt c)]) (show decode (kCc k) 31 = .ok (.invokevirtual 62, 3) by rw [X.2.1.1]; decide +kernel) cw_len hO1k (by rw [E.1, E.2.1, E.2.2.1]; exact j_len G SF hs1 I) ⟨by rw [E.2.2.2]; exact (show (rmN 302).frames + 1 ≤ (rmN 131).frames by decide), by rw [E.2.2.2]; exact (show 8 + (mNL (miB 302) + 11) + (rmN 302).locals ≤ (rmN 131).locals by decide), by rw [E.2.2.2]; exact (show 0 + (rmN 302).cells ≤ (rmN 131).cells by decide), by rw [E.2.2.2]; exact (show 0 + (rmN 302).slots ≤ (rmN 131).slots by decide)⟩ (Nat.le_of_ble_eq_true rfl) (fun vv s1003 hq => ?_) (fun ee s1003 hq => ?_)
      rotate_left
      · obtain ⟨rfl, e1004, hv, hrs1003, hps1003⟩ := hq; cases hv
      obtain ⟨rfl, e1004, hv, hrs1003, hps1003⟩ := hq
      cases hv
      show WS k 34 [(0, .ref (A 1)), (1, .ref q1), (2, .int (Int32.ofInt c))] [.int (Int32.ofInt e1004), .int (Int32.ofInt c)] (Wd A dT t) 0 0
      refine z_icmp_ge X (t := 64) (show cdA 131 34 = some (.if_icmp .ge 30, 3, 3, 0, 0) from rfl) (by decide) ⟨by first | exact oq_fa4e5087 hi.1 | omega, by first | exact oq_a893734d hi.2.1 hi.2.2.2 | omega⟩ ⟨by omega, by omega⟩ (fun g1005 => ?_) (fun g1005 => ?_)
      ·
        refine WS_lv (lv := [(0, .ref (A 1)), (1, .ref q1), (2, .int (Int32.ofInt c))]) (List.forall_mem_cons.mpr ⟨(List.Mem.head _), (List.forall_mem_cons.mpr ⟨(List.Mem.tail _ (List.Mem.head _)), (List.forall_mem_cons.mpr ⟨(List.Mem.tail _ (List.Mem.tail _ (List.Mem.head _))), (fun q h => absurd h List.not_mem_nil)⟩)⟩)⟩) ?_
        exact kx _ c I F (by first | exact ⟨hi.1, hi.2.1, hi.2.2.1, hi.2.2.2⟩ | omega)
      ·
        refine z_aload_n X (x := A 1) (show cdA 131 37 = some (.aload_n 0, 1, 0, 0, 0) from rfl) (List.Mem.head _) ?_
        refine s_getR X 1 (show cdA 131 38 = some (.getfield 11, 3, 10, 0, 0) from rfl) (by decide) rfl rfl ?_
        refine z_aload_n X (x := A 1) (show cdA 131 41 = some (.aload_n 0, 1, 0, 0, 0) from rfl) (List.Mem.head _) ?_
        refine z_getI X 1 (show cdA 131 42 = some (.getfield 42, 3, 10, 5, 0) from rfl) (by decide) rfl rfl ?_
        have b1006 : (0 : Int) ≤ iI t 4 ∧ iI t 4 ≤ 200 := I.1 4
        refine z_load_n X (x := c) (show cdA 131 45 = some (.iload_n 2, 1, 0, 0, 0) from rfl) (List.Mem.tail _ (List.Mem.tail _ (List.Mem.head _))) ?_
        refine z_add X (show cdA 131 46 = some (.iadd, 1, 0, 0, 0) from rfl) ?_
        refine z_ald X 2 (show cdA 131 47 = some (.iaload, 1, 0, 0, 0) from rfl) (by decide) rfl (by first | exact oq_d8d6a599 hi.1 b1006.1 | omega) (show ((iI t 4) + c) < 200 by omega) (by decide) ?_
        have b1007 : (0 : Int) ≤ iC t 0 (((iI t 4) + c)).toNat ∧ iC t 0 (((iI t 4) + c)).toNat ≤ 255 := I.2 0 _ (show (((iI t 4) + c)).toNat < 200 by omega)
        refine z_aload_n X (x := q1) (show cdA 131 48 = some (.aload_n 1, 1, 0, 0, 0) from rfl) (List.Mem.tail _ (List.Mem.head _)) ?_
        refine z_load_n X (x := c) (show cdA 131 49 = some (.iload_n 2, 1, 0, 0, 0) from rfl) (List.Mem.tail _ (List.Mem.tail _ (List.Mem.head _))) ?_
        refine z_callK X (rm := rmN 303) (As := [.int (Int32.ofInt c)]) (st := [.int (Int32.ofInt (iC t 0 (((iI t 4) + c)).toNat))]) (show decode (kCc k) 50 = .ok (.invokevirtual 68, 3) by rw [X.2.1.1]; decide +kernel) cw_cha hO1k (by rw [E.1, E.2.1, E.2.2.1]; exact j_char G SF hs1 I (by omega)) ⟨by rw [E.2.2.2]; exact (show (rmN 303).frames + 1 ≤ (rmN 131).frames by decide), by rw [E.2.2.2]; exact (show 8 + (mNL (miB 303) + 11) + (rmN 303).locals ≤ (rmN 131).locals by decide), by rw [E.2.2.2]; exact (show 0 + (rmN 303).cells ≤ (rmN 131).cells by decide), by rw [E.2.2.2]; exact (show 0 + (rmN 303).slots ≤ (rmN 131).slots by decide)⟩ (Nat.le_of_ble_eq_true rfl) (fun vv s1008 hq => ?_) (fun ee s1008 hq => ?_)
        rotate_left
        · obtain ⟨Is1008, Fs1008, e1009, hv, hrs1008, hps1008⟩ := hq; cases hv
        obtain ⟨Is1008, Fs1008, e1009, hv, hrs1008, hps1008⟩ := hq
        cases hv
        have Gs1008 := fm_ts F Fs1008 (by decide) (by decide)
        have ws1008_2 : iI s1008 2 = iI t 2 := fm_i Fs1008 (by decide)
        have ws1008_4 : iI s1008 4 = iI t 4 := fm_i Fs1008 (by decide)
        show WS k 53 [(0, .ref (A 1)), (1, .ref q1), (2, .int (Int32.ofInt c))] [.int (Int32.ofInt e1009), .int (Int32.ofInt (iC t 0 (((iI t 4) + c)).toNat))] (Wd A dT s1008) 0 0
        refine z_icmp_eq X (t := 58) (show cdA 131 53 = some (.if_icmp .eq 5, 3, 0, 0, 0) from rfl) (by decide) (rng_to _) ⟨by omega, by omega⟩ (fun g1010 => ?_) (fun g1010 => ?_)
        ·
          refine z_inc X (x := c) (lv' := [(2, .int (Int32.ofInt (c + 1))), (0, .ref (A 1)), (1, .ref q1)]) (show cdA 131 58 = some (.iinc 2 1, 3, 0, 0, 0) from rfl) (by decide) (List.Mem.tail _ (List.Mem.tail _ (List.Mem.head _))) (fun _ h => h) ?_
          refine z_goto X (t := 29) (show cdA 131 61 = some (.goto (-32), 3, 0, 0, 0) from rfl) (by decide) ?_
          refine WS_lv (lv := [(0, .ref (A 1)), (1, .ref q1), (2, .int (Int32.ofInt (c + 1)))]) (List.forall_mem_cons.mpr ⟨(List.Mem.tail _ (List.Mem.head _)), (List.forall_mem_cons.mpr ⟨(List.Mem.tail _ (List.Mem.tail _ (List.Mem.head _))), (List.forall_mem_cons.mpr ⟨(List.Mem.head _), (fun q h => absurd h List.not_mem_nil)⟩)⟩)⟩) ?_
          exact ih _ (c + 1) Is1008 Gs1008 (by first | exact ⟨oq_54f49eb5 hi.1, by omega, oq_3c8fd887 ws1008_2 ws1008_4 hi.2.2.1, hi.2.2.2⟩ | omega) (by omega) kx
        ·
          refine z_const X (show cdA 131 56 = some (.iconst 0, 1, 0, 0, 0) from rfl) ?_
          exact w_iret X.1 q hRt (nar_ret (by first | exact Or.inl (by decide) | omega)) (ax_d X (show cdA 131 57 = some (.ireturn, 1, 0, 0, 0) from rfl)) (Nat.zero_le _) (Nat.zero_le _) ⟨_, rfl, Is1008, Gs1008, 0, rfl, (by decide), by first | exact Or.inl (by decide) | omega⟩
  refine z_aload_n X (x := A 1) (show cdA 131 0 = some (.aload_n 0, 1, 0, 0, 0) from rfl) (List.Mem.head _) ?_
  refine z_getI X 1 (show cdA 131 1 = some (.getfield 52, 3, 10, 6, 0) from rfl) (by decide) rfl rfl ?_
  have b3 : ((-3) : Int) ≤ iI s 5 ∧ iI s 5 ≤ 255 := I.1 5
  refine z_bipush X (show cdA 131 4 = some (.bipush (-3), 2, 0, 0, (-3)) from rfl) ?_
  refine z_icmp_ne X (t := 25) (show cdA 131 6 = some (.if_icmp .ne 19, 3, 1, 0, 0) from rfl) (by decide) (rng_to _) (by decide) (fun g4 => ?_) (fun g4 => ?_)
  ·
    refine z_const X (show cdA 131 25 = some (.iconst 0, 1, 0, 0, 0) from rfl) ?_
    exact w_iret X.1 q hRt (nar_ret (by first | exact Or.inl (by decide) | omega)) (ax_d X (show cdA 131 26 = some (.ireturn, 1, 0, 0, 0) from rfl)) (Nat.zero_le _) (Nat.zero_le _) ⟨_, rfl, I, F, 0, rfl, (by decide), by first | exact Or.inl (by decide) | omega⟩
  ·
    refine z_aload_n X (x := A 1) (show cdA 131 9 = some (.aload_n 0, 1, 0, 0, 0) from rfl) (List.Mem.head _) ?_
    refine z_getI X 1 (show cdA 131 10 = some (.getfield 29, 3, 10, 3, 0) from rfl) (by decide) rfl rfl ?_
    have b5 : (0 : Int) ≤ iI s 2 ∧ iI s 2 ≤ 200 := I.1 2
    refine z_aload_n X (x := A 1) (show cdA 131 13 = some (.aload_n 0, 1, 0, 0, 0) from rfl) (List.Mem.head _) ?_
    refine z_getI X 1 (show cdA 131 14 = some (.getfield 42, 3, 10, 5, 0) from rfl) (by decide) rfl rfl ?_
    have b6 : (0 : Int) ≤ iI s 4 ∧ iI s 4 ≤ 200 := I.1 4
    refine z_sub X (show cdA 131 17 = some (.isub, 1, 0, 0, 0) from rfl) ?_
    refine z_aload_n X (x := q1) (show cdA 131 18 = some (.aload_n 1, 1, 0, 0, 0) from rfl) (List.Mem.tail _ (List.Mem.head _)) ?_
    refine z_callK X (rm := rmN 302) (As := []) (st := [.int (Int32.ofInt ((iI s 2) - (iI s 4)))]) (show decode (kCc k) 19 = .ok (.invokevirtual 62, 3) by rw [X.2.1.1]; decide +kernel) cw_len hO1k (by rw [E.1, E.2.1, E.2.2.1]; exact j_len G SF hs1 I) ⟨by rw [E.2.2.2]; exact (show (rmN 302).frames + 1 ≤ (rmN 131).frames by decide), by rw [E.2.2.2]; exact (show 8 + (mNL (miB 302) + 11) + (rmN 302).locals ≤ (rmN 131).locals by decide), by rw [E.2.2.2]; exact (show 0 + (rmN 302).cells ≤ (rmN 131).cells by decide), by rw [E.2.2.2]; exact (show 0 + (rmN 302).slots ≤ (rmN 131).slots by decide)⟩ (Nat.le_of_ble_eq_true rfl) (fun vv s7 hq => ?_) (fun ee s7 hq => ?_)
    rotate_left
    · obtain ⟨rfl, e8, hv, hrs7, hps7⟩ := hq; cases hv
    obtain ⟨rfl, e8, hv, hrs7, hps7⟩ := hq
    cases hv
    show WS k 22 [(0, .ref (A 1)), (1, .ref q1)] [.int (Int32.ofInt e8), .int (Int32.ofInt ((iI s 2) - (iI s 4)))] (Wd A dT s) 0 0
    refine z_icmp_eq X (t := 27) (show cdA 131 22 = some (.if_icmp .eq 5, 3, 0, 0, 0) from rfl) (by decide) ⟨by first | exact oq_b5f6b5ca p0 | omega, by first | exact oq_57a55da2 b5.2 b6.1 | omega⟩ ⟨by omega, by omega⟩ (fun g9 => ?_) (fun g9 => ?_)
    ·
      refine z_const X (show cdA 131 27 = some (.iconst 0, 1, 0, 0, 0) from rfl) ?_
      refine z_store_n X (lv' := [(2, .int (Int32.ofInt 0)), (0, .ref (A 1)), (1, .ref q1)]) (show cdA 131 28 = some (.istore_n 2, 1, 0, 0, 0) from rfl) (by decide) (fun _ h => h) ?_
      refine WS_lv (lv := [(0, .ref (A 1)), (1, .ref q1), (2, .int (Int32.ofInt 0))]) (List.forall_mem_cons.mpr ⟨(List.Mem.tail _ (List.Mem.head _)), (List.forall_mem_cons.mpr ⟨(List.Mem.tail _ (List.Mem.tail _ (List.Mem.head _))), (List.forall_mem_cons.mpr ⟨(List.Mem.head _), (fun q h => absurd h List.not_mem_nil)⟩)⟩)⟩) ?_
      refine L29 (((n1 : Int) - 0 : Int).toNat + 1) s 0 I F (by omega) (Nat.lt_succ_self _) ?_
      intro s10 x11 Is10 Fs10 hs10
      have b12 : (0 : Int) ≤ iI s10 2 ∧ iI s10 2 ≤ 200 := Is10.1 2
      have b13 : (0 : Int) ≤ iI s10 4 ∧ iI s10 4 ≤ 200 := Is10.1 4
      refine z_const X (show cdA 131 64 = some (.iconst 1, 1, 0, 0, 0) from rfl) ?_
      exact w_iret X.1 q hRt (nar_ret (by first | exact Or.inr (by decide) | omega)) (ax_d X (show cdA 131 65 = some (.ireturn, 1, 0, 0, 0) from rfl)) (Nat.zero_le _) (Nat.zero_le _) ⟨_, rfl, Is10, Fs10, 1, rfl, (by decide), by first | exact Or.inr (by decide) | omega⟩
    ·
      refine z_const X (show cdA 131 25 = some (.iconst 0, 1, 0, 0, 0) from rfl) ?_
      exact w_iret X.1 q hRt (nar_ret (by first | exact Or.inl (by decide) | omega)) (ax_d X (show cdA 131 26 = some (.ireturn, 1, 0, 0, 0) from rfl)) (Nat.zero_le _) (Nat.zero_le _) ⟨_, rfl, I, F, 0, rfl, (by decide), by first | exact Or.inl (by decide) | omega⟩
end M84
