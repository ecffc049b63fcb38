/-! Rows over whole numbers: every int is Int32.ofInt of a whole number -/
abbrev rng (e : Int) : Prop := -2147483648 ≤ e ∧ e ≤ 2147483647
theorem zi {e : Int} (h : rng e) : (Int32.ofInt e).toInt = e := Int32.toInt_ofInt_of_le (by unfold rng at h; omega) (by unfold rng at h; omega)
theorem zi_in {e : Int} (h : rng e) : inI e = true := z_inI h.1 h.2
abbrev iI (s : PS) (k : Nat) : Int := (gI s k).toInt
abbrev iC (s : PS) (a j : Nat) : Int := (gC s a j).toInt
theorem rng_to (x : Int32) : rng x.toInt := z_toInt x
theorem ofi_to (x : Int32) : Int32.ofInt x.toInt = x := Int32.ofInt_toInt x
theorem zi_lt {x y : Int} (hx : rng x) (hy : rng y) : Int32.ofInt x < Int32.ofInt y ↔ x < y := by rw [Int32.lt_iff_toInt_lt, zi hx, zi hy]
theorem zi_le {x y : Int} (hx : rng x) (hy : rng y) : Int32.ofInt x ≤ Int32.ofInt y ↔ x ≤ y := by rw [Int32.le_iff_toInt_le, zi hx, zi hy]
theorem zi_eq {x y : Int} (hx : rng x) (hy : rng y) : Int32.ofInt x = Int32.ofInt y ↔ x = y := ⟨fun h => by have := congrArg Int32.toInt h; rwa [zi hx, zi hy] at this, fun h => by rw [h]⟩
theorem zi_0 : (0 : Int32) = Int32.ofInt 0 := rfl
theorem rng_0 : rng 0 := ⟨by decide, by decide⟩
theorem iI_u {s : PS} {k : Nat} {e : Int} (h : rng e) : iI (uI s k (Int32.ofInt e)) k = e := by
  show (if k = k then Int32.ofInt e else _).toInt = e
  rw [if_pos rfl, zi h]
theorem iC_u {s : PS} {a i : Nat} {e : Int} (h : rng e) : iC (uC s a i (Int32.ofInt e)) a i = e := by
  show ((if a = a then upd (s.2.2.1 a) i (Int32.ofInt e) else _) i).toInt = e
  rw [if_pos rfl]
  unfold upd
  rw [if_pos rfl, zi h]
theorem iC_n {s : PS} {a i j : Nat} {x : Int32} (h : j ≠ i) : iC (uC s a i x) a j = iC s a j := by
  show ((if a = a then upd (s.2.2.1 a) i x else _) j).toInt = _
  rw [if_pos rfl]
  unfold upd
  rw [if_neg h]
section ZR
variable {k : kx_T} {mn pc : Nat} {dT : Nat → ClassId} {lv : List (Nat × Value)} {st : List Value} {ws : va_W} {ce sl a b : Nat} {z : Int} {A : Nat → Nat} {s : PS}
theorem z_const (X : AX k mn dT) {n : Int} (h : cdA mn pc = some (.iconst n, 1, a, b, z)) (g : WS k (pc + 1) lv (.int (Int32.ofInt n) :: st) ws ce sl) : WS k pc lv st ws ce sl := w_iconst X.1 (ax_d X h) g
theorem z_bipush (X : AX k mn dT) {n : Int} (h : cdA mn pc = some (.bipush n, 2, a, b, z)) (g : WS k (pc + 2) lv (.int (Int32.ofInt z) :: st) ws ce sl) : WS k pc lv st ws ce sl := w_bipush X.1 (ax_d X h) ((ax_r X h).2.2) g
theorem z_sipush (X : AX k mn dT) {n : Int} (h : cdA mn pc = some (.sipush n, 3, a, b, z)) (g : WS k (pc + 3) lv (.int (Int32.ofInt z) :: st) ws ce sl) : WS k pc lv st ws ce sl := w_sipush X.1 (ax_d X h) ((ax_r X h).2.2) g
theorem z_ldc (X : AX k mn dT) {idx : Nat} (h : cdA mn pc = some (.ldc idx, 2, a, b, z)) (g : WS k (pc + 2) lv (.int (Int32.ofInt z) :: st) ws ce sl) : WS k pc lv st ws ce sl := w_ldc X.1 (by rw [X.2.1.2.1]; exact (ax_r X h).2.2) (ax_d X h) g
theorem z_ldcw (X : AX k mn dT) {idx : Nat} (h : cdA mn pc = some (.ldc_w idx, 3, a, b, z)) (g : WS k (pc + 3) lv (.int (Int32.ofInt z) :: st) ws ce sl) : WS k pc lv st ws ce sl := w_ldcw X.1 (by rw [X.2.1.2.1]; exact (ax_r X h).2.2) (ax_d X h) g
theorem z_load_n (X : AX k mn dT) {i : Fin 4} {x : Int} (h : cdA mn pc = some (.iload_n i, 1, a, b, z)) (hm : ((i : Nat), Value.int (Int32.ofInt x)) ∈ lv) (g : WS k (pc + 1) lv (.int (Int32.ofInt x) :: st) ws ce sl) : WS k pc lv st ws ce sl := w_iload_n X.1 (ax_d X h) hm g
theorem z_load (X : AX k mn dT) {i : Nat} {x : Int} (h : cdA mn pc = some (.iload i, 2, a, b, z)) (hm : (i, Value.int (Int32.ofInt x)) ∈ lv) (g : WS k (pc + 2) lv (.int (Int32.ofInt x) :: st) ws ce sl) : WS k pc lv st ws ce sl := w_iload X.1 (ax_d X h) hm g
theorem z_aload_n (X : AX k mn dT) {i : Fin 4} {x : Nat} (h : cdA mn pc = some (.aload_n i, 1, a, b, z)) (hm : ((i : Nat), Value.ref x) ∈ lv) (g : WS k (pc + 1) lv (.ref x :: st) ws ce sl) : WS k pc lv st ws ce sl := w_aload_n X.1 (ax_d X h) hm g
theorem z_aload (X : AX k mn dT) {i x : Nat} (h : cdA mn pc = some (.aload i, 2, a, b, z)) (hm : (i, Value.ref x) ∈ lv) (g : WS k (pc + 2) lv (.ref x :: st) ws ce sl) : WS k pc lv st ws ce sl := w_aload X.1 (ax_d X h) hm g
theorem z_store_n (X : AX k mn dT) {i : Fin 4} {x : Int} {lv' : List (Nat × Value)} (h : cdA mn pc = some (.istore_n i, 1, a, b, z)) (hn : (i : Nat) < mNL (miB mn)) (hs : ∀ q ∈ lv', q ∈ ((i : Nat), Value.int (Int32.ofInt x)) :: lv_but i lv) (g : WS k (pc + 1) lv' st ws ce sl) : WS k pc lv (.int (Int32.ofInt x) :: st) ws ce sl := w_istore_n X.1 (ax_d X h) (by rw [X.2.1.2.2]; exact hn) hs g
theorem z_store (X : AX k mn dT) {i : Nat} {x : Int} {lv' : List (Nat × Value)} (h : cdA mn pc = some (.istore i, 2, a, b, z)) (hn : i < mNL (miB mn)) (hs : ∀ q ∈ lv', q ∈ (i, Value.int (Int32.ofInt x)) :: lv_but i lv) (g : WS k (pc + 2) lv' st ws ce sl) : WS k pc lv (.int (Int32.ofInt x) :: st) ws ce sl := w_istore X.1 (ax_d X h) (by rw [X.2.1.2.2]; exact hn) hs g
theorem z_astore_n (X : AX k mn dT) {i : Fin 4} {x : Nat} {lv' : List (Nat × Value)} (h : cdA mn pc = some (.astore_n i, 1, a, b, z)) (hn : (i : Nat) < mNL (miB mn)) (hs : ∀ q ∈ lv', q ∈ ((i : Nat), Value.ref x) :: lv_but i lv) (g : WS k (pc + 1) lv' st ws ce sl) : WS k pc lv (.ref x :: st) ws ce sl := w_astore_n X.1 (ax_d X h) (by rw [X.2.1.2.2]; exact hn) hs g
theorem z_astore (X : AX k mn dT) {i x : Nat} {lv' : List (Nat × Value)} (h : cdA mn pc = some (.astore i, 2, a, b, z)) (hn : i < mNL (miB mn)) (hs : ∀ q ∈ lv', q ∈ (i, Value.ref x) :: lv_but i lv) (g : WS k (pc + 2) lv' st ws ce sl) : WS k pc lv (.ref x :: st) ws ce sl := w_astore X.1 (ax_d X h) (by rw [X.2.1.2.2]; exact hn) hs g
theorem z_inc (X : AX k mn dT) {i : Nat} {n x : Int} {lv' : List (Nat × Value)} (h : cdA mn pc = some (.iinc i n, 3, a, b, z)) (hn : i < mNL (miB mn)) (hm : (i, Value.int (Int32.ofInt x)) ∈ lv) (hs : ∀ q ∈ lv', q ∈ (i, Value.int (Int32.ofInt (x + n))) :: lv_but i lv) (g : WS k (pc + 3) lv' st ws ce sl) : WS k pc lv st ws ce sl := w_iinc X.1 (ax_d X h) (by rw [X.2.1.2.2]; exact hn) hm (fun q hq => by rw [← Int32.ofInt_add]; exact hs q hq) g
theorem z_add (X : AX k mn dT) {x y : Int} (h : cdA mn pc = some (.iadd, 1, a, b, z)) (g : WS k (pc + 1) lv (.int (Int32.ofInt (x + y)) :: st) ws ce sl) : WS k pc lv (.int (Int32.ofInt y) :: .int (Int32.ofInt x) :: st) ws ce sl := w_iadd X.1 (ax_d X h) (by rw [← Int32.ofInt_add]; exact g)
theorem z_sub (X : AX k mn dT) {x y : Int} (h : cdA mn pc = some (.isub, 1, a, b, z)) (g : WS k (pc + 1) lv (.int (Int32.ofInt (x - y)) :: st) ws ce sl) : WS k pc lv (.int (Int32.ofInt y) :: .int (Int32.ofInt x) :: st) ws ce sl := w_isub X.1 (ax_d X h) (by rw [← Int32.ofInt_sub]; exact g)
theorem z_mul (X : AX k mn dT) {x y : Int} (h : cdA mn pc = some (.imul, 1, a, b, z)) (g : WS k (pc + 1) lv (.int (Int32.ofInt (x * y)) :: st) ws ce sl) : WS k pc lv (.int (Int32.ofInt y) :: .int (Int32.ofInt x) :: st) ws ce sl := w_imul X.1 (ax_d X h) (by rw [← Int32.ofInt_mul]; exact g)
theorem z_neg (X : AX k mn dT) {x : Int} (h : cdA mn pc = some (.ineg, 1, a, b, z)) (g : WS k (pc + 1) lv (.int (Int32.ofInt (-x)) :: st) ws ce sl) : WS k pc lv (.int (Int32.ofInt x) :: st) ws ce sl := w_ineg X.1 (ax_d X h) (by rw [← Int32.ofInt_neg]; exact g)
theorem z_quot (X : AX k mn dT) {x y : Int} (h : cdA mn pc = some (.idiv, 1, a, b, z)) (h0 : 0 ≤ x) (hx : rng x) (hy : 0 < y) (hy2 : rng y) (g : WS k (pc + 1) lv (.int (Int32.ofInt (x / y)) :: st) ws ce sl) : WS k pc lv (.int (Int32.ofInt y) :: .int (Int32.ofInt x) :: st) ws ce sl := by
  refine w_idiv X.1 (ax_d X h) (fun q => ?_) ?_
  · have := congrArg Int32.toInt q
    rw [zi hy2] at this
    have e0 : (0 : Int32).toInt = 0 := rfl
    omega
  · rw [← z_div (zi_in hx) (zi_in hy2), z_wr, Int.tdiv_eq_ediv_of_nonneg h0]
    exact g
theorem z_mod (X : AX k mn dT) {x y : Int} (h : cdA mn pc = some (.irem, 1, a, b, z)) (h0 : 0 ≤ x) (hx : rng x) (hy : 0 < y) (hy2 : rng y) (g : WS k (pc + 1) lv (.int (Int32.ofInt (x % y)) :: st) ws ce sl) : WS k pc lv (.int (Int32.ofInt y) :: .int (Int32.ofInt x) :: st) ws ce sl := by
  refine w_irem X.1 (ax_d X h) (fun q => ?_) ?_
  · have := congrArg Int32.toInt q
    rw [zi hy2] at this
    have e0 : (0 : Int32).toInt = 0 := rfl
    omega
  · rw [← z_rem (zi_in hx) (zi_in hy2), z_wr, Int.tdiv_eq_ediv_of_nonneg h0, show x - x / y * y = x % y by rw [Int.emod_def, Int.mul_comm]]
    exact g
/-- a value that may have run over: some whole number in range -/
theorem z_any {x : Int32} (g : ∀ e, rng e → WS k pc lv (.int (Int32.ofInt e) :: st) ws ce sl) : WS k pc lv (.int x :: st) ws ce sl := by
  have := g x.toInt (rng_to x)
  rwa [ofi_to] at this
theorem z_band (X : AX k mn dT) {x y : Int} (h : cdA mn pc = some (.iand, 1, a, b, z)) (g : WS k (pc + 1) lv (.int (Int32.ofInt x &&& Int32.ofInt y) :: st) ws ce sl) : WS k pc lv (.int (Int32.ofInt y) :: .int (Int32.ofInt x) :: st) ws ce sl := w_iand X.1 (ax_d X h) g
theorem z_bor (X : AX k mn dT) {x y : Int} (h : cdA mn pc = some (.ior, 1, a, b, z)) (g : WS k (pc + 1) lv (.int (Int32.ofInt x ||| Int32.ofInt y) :: st) ws ce sl) : WS k pc lv (.int (Int32.ofInt y) :: .int (Int32.ofInt x) :: st) ws ce sl := w_ior X.1 (ax_d X h) g
theorem z_bshl (X : AX k mn dT) {x y : Int} (h : cdA mn pc = some (.ishl, 1, a, b, z)) (g : WS k (pc + 1) lv (.int (Int32.ofInt x <<< (Int32.ofInt y &&& 31)) :: st) ws ce sl) : WS k pc lv (.int (Int32.ofInt y) :: .int (Int32.ofInt x) :: st) ws ce sl := w_ishl X.1 (ax_d X h) g
theorem z_bshr (X : AX k mn dT) {x y : Int} (h : cdA mn pc = some (.ishr, 1, a, b, z)) (g : WS k (pc + 1) lv (.int (Int32.ofInt x >>> (Int32.ofInt y &&& 31)) :: st) ws ce sl) : WS k pc lv (.int (Int32.ofInt y) :: .int (Int32.ofInt x) :: st) ws ce sl := w_ishr X.1 (ax_d X h) g
theorem z_goto (X : AX k mn dT) {off : Int} {t : Nat} (h : cdA mn pc = some (.goto off, 3, a, b, z)) (ht : (pc : Int) + off = (t : Int)) (g : WS k t lv st ws ce sl) : WS k pc lv st ws ce sl := w_goto X.1 (ax_d X h) ht g
theorem z_icmp_lt (X : AX k mn dT) {x y off : Int} {t : Nat} (h : cdA mn pc = some (.if_icmp .lt off, 3, a, b, z)) (ht : (pc : Int) + off = (t : Int)) (hx : rng x) (hy : rng y) (h1 : x < y → WS k t lv st ws ce sl) (h2 : y ≤ x → WS k (pc + 3) lv st ws ce sl) : WS k pc lv (.int (Int32.ofInt y) :: .int (Int32.ofInt x) :: st) ws ce sl := w_icmp_lt X.1 (ax_d X h) ht (fun q => h1 ((zi_lt hx hy).mp q)) (fun q => h2 (Int.not_lt.mp (fun z => q ((zi_lt hx hy).mpr z))))
theorem z_if_lt (X : AX k mn dT) {x off : Int} {t : Nat} (h : cdA mn pc = some (.ifCond .lt off, 3, a, b, z)) (ht : (pc : Int) + off = (t : Int)) (hx : rng x) (h1 : x < 0 → WS k t lv st ws ce sl) (h2 : 0 ≤ x → WS k (pc + 3) lv st ws ce sl) : WS k pc lv (.int (Int32.ofInt x) :: st) ws ce sl := w_if_lt X.1 (ax_d X h) ht (fun q => h1 ((zi_lt hx rng_0).mp q)) (fun q => h2 (Int.not_lt.mp (fun z => q ((zi_lt hx rng_0).mpr z))))
theorem z_icmp_ge (X : AX k mn dT) {x y off : Int} {t : Nat} (h : cdA mn pc = some (.if_icmp .ge off, 3, a, b, z)) (ht : (pc : Int) + off = (t : Int)) (hx : rng x) (hy : rng y) (h1 : y ≤ x → WS k t lv st ws ce sl) (h2 : x < y → WS k (pc + 3) lv st ws ce sl) : WS k pc lv (.int (Int32.ofInt y) :: .int (Int32.ofInt x) :: st) ws ce sl := w_icmp_ge X.1 (ax_d X h) ht (fun q => h1 ((zi_le hy hx).mp q)) (fun q => h2 (Int.not_le.mp (fun z => q ((zi_le hy hx).mpr z))))
theorem z_if_ge (X : AX k mn dT) {x off : Int} {t : Nat} (h : cdA mn pc = some (.ifCond .ge off, 3, a, b, z)) (ht : (pc : Int) + off = (t : Int)) (hx : rng x) (h1 : 0 ≤ x → WS k t lv st ws ce sl) (h2 : x < 0 → WS k (pc + 3) lv st ws ce sl) : WS k pc lv (.int (Int32.ofInt x) :: st) ws ce sl := w_if_ge X.1 (ax_d X h) ht (fun q => h1 ((zi_le rng_0 hx).mp q)) (fun q => h2 (Int.not_le.mp (fun z => q ((zi_le rng_0 hx).mpr z))))
theorem z_icmp_gt (X : AX k mn dT) {x y off : Int} {t : Nat} (h : cdA mn pc = some (.if_icmp .gt off, 3, a, b, z)) (ht : (pc : Int) + off = (t : Int)) (hx : rng x) (hy : rng y) (h1 : y < x → WS k t lv st ws ce sl) (h2 : x ≤ y → WS k (pc + 3) lv st ws ce sl) : WS k pc lv (.int (Int32.ofInt y) :: .int (Int32.ofInt x) :: st) ws ce sl := w_icmp_gt X.1 (ax_d X h) ht (fun q => h1 ((zi_lt hy hx).mp q)) (fun q => h2 (Int.not_lt.mp (fun z => q ((zi_lt hy hx).mpr z))))
theorem z_if_gt (X : AX k mn dT) {x off : Int} {t : Nat} (h : cdA mn pc = some (.ifCond .gt off, 3, a, b, z)) (ht : (pc : Int) + off = (t : Int)) (hx : rng x) (h1 : 0 < x → WS k t lv st ws ce sl) (h2 : x ≤ 0 → WS k (pc + 3) lv st ws ce sl) : WS k pc lv (.int (Int32.ofInt x) :: st) ws ce sl := w_if_gt X.1 (ax_d X h) ht (fun q => h1 ((zi_lt rng_0 hx).mp q)) (fun q => h2 (Int.not_lt.mp (fun z => q ((zi_lt rng_0 hx).mpr z))))
theorem z_icmp_le (X : AX k mn dT) {x y off : Int} {t : Nat} (h : cdA mn pc = some (.if_icmp .le off, 3, a, b, z)) (ht : (pc : Int) + off = (t : Int)) (hx : rng x) (hy : rng y) (h1 : x ≤ y → WS k t lv st ws ce sl) (h2 : y < x → WS k (pc + 3) lv st ws ce sl) : WS k pc lv (.int (Int32.ofInt y) :: .int (Int32.ofInt x) :: st) ws ce sl := w_icmp_le X.1 (ax_d X h) ht (fun q => h1 ((zi_le hx hy).mp q)) (fun q => h2 (Int.not_le.mp (fun z => q ((zi_le hx hy).mpr z))))
theorem z_if_le (X : AX k mn dT) {x off : Int} {t : Nat} (h : cdA mn pc = some (.ifCond .le off, 3, a, b, z)) (ht : (pc : Int) + off = (t : Int)) (hx : rng x) (h1 : x ≤ 0 → WS k t lv st ws ce sl) (h2 : 0 < x → WS k (pc + 3) lv st ws ce sl) : WS k pc lv (.int (Int32.ofInt x) :: st) ws ce sl := w_if_le X.1 (ax_d X h) ht (fun q => h1 ((zi_le hx rng_0).mp q)) (fun q => h2 (Int.not_le.mp (fun z => q ((zi_le hx rng_0).mpr z))))
theorem z_icmp_eq (X : AX k mn dT) {x y off : Int} {t : Nat} (h : cdA mn pc = some (.if_icmp .eq off, 3, a, b, z)) (ht : (pc : Int) + off = (t : Int)) (hx : rng x) (hy : rng y) (h1 : x = y → WS k t lv st ws ce sl) (h2 : x ≠ y → WS k (pc + 3) lv st ws ce sl) : WS k pc lv (.int (Int32.ofInt y) :: .int (Int32.ofInt x) :: st) ws ce sl := w_icmp_eq X.1 (ax_d X h) ht (fun q => h1 ((zi_eq hx hy).mp q)) (fun q => h2 (fun z => q ((zi_eq hx hy).mpr z)))
theorem z_if_eq (X : AX k mn dT) {x off : Int} {t : Nat} (h : cdA mn pc = some (.ifCond .eq off, 3, a, b, z)) (ht : (pc : Int) + off = (t : Int)) (hx : rng x) (h1 : x = 0 → WS k t lv st ws ce sl) (h2 : x ≠ 0 → WS k (pc + 3) lv st ws ce sl) : WS k pc lv (.int (Int32.ofInt x) :: st) ws ce sl := w_if_eq X.1 (ax_d X h) ht (fun q => h1 ((zi_eq hx rng_0).mp q)) (fun q => h2 (fun z => q ((zi_eq hx rng_0).mpr z)))
theorem z_icmp_ne (X : AX k mn dT) {x y off : Int} {t : Nat} (h : cdA mn pc = some (.if_icmp .ne off, 3, a, b, z)) (ht : (pc : Int) + off = (t : Int)) (hx : rng x) (hy : rng y) (h1 : x ≠ y → WS k t lv st ws ce sl) (h2 : x = y → WS k (pc + 3) lv st ws ce sl) : WS k pc lv (.int (Int32.ofInt y) :: .int (Int32.ofInt x) :: st) ws ce sl := w_icmp_ne X.1 (ax_d X h) ht (fun q => h1 (fun z => q ((zi_eq hx hy).mpr z))) (fun q => h2 ((zi_eq hx hy).mp q))
theorem z_if_ne (X : AX k mn dT) {x off : Int} {t : Nat} (h : cdA mn pc = some (.ifCond .ne off, 3, a, b, z)) (ht : (pc : Int) + off = (t : Int)) (hx : rng x) (h1 : x ≠ 0 → WS k t lv st ws ce sl) (h2 : x = 0 → WS k (pc + 3) lv st ws ce sl) : WS k pc lv (.int (Int32.ofInt x) :: st) ws ce sl := w_if_ne X.1 (ax_d X h) ht (fun q => h1 (fun z => q ((zi_eq hx rng_0).mpr z))) (fun q => h2 ((zi_eq hx rng_0).mp q))
theorem z_getI (X : AX k mn dT) (c : Nat) {idx ci f q : Nat} {fs : List AV} (h : cdA mn pc = some (.getfield idx, 3, ci, f, 0)) (hc : c < 518) (hb : bsS c = .inr (ci, fs)) (hf : fs[f]? = some (aS q)) (g : WS k (pc + 3) lv (.int (Int32.ofInt (iI s q)) :: st) (Wd A dT s) ce sl) : WS k pc lv (.ref (A c) :: st) (Wd A dT s) ce sl := s_getI X c h hc hb hf (by rw [ofi_to] at g; exact g)
theorem z_ald (X : AX k mn dT) (c : Nat) {n q : Nat} {i : Int} (h : cdA mn pc = some (.iaload, 1, 0, 0, 0)) (hc : c < 518) (hb : bsS c = .inl (0, n, .inr (0, 0, q))) (h0 : 0 ≤ i) (hi : i < (n : Int)) (hn : n < 2147483648) (g : WS k (pc + 1) lv (.int (Int32.ofInt (iC s q i.toNat)) :: st) (Wd A dT s) ce sl) : WS k pc lv (.int (Int32.ofInt i) :: .ref (A c) :: st) (Wd A dT s) ce sl := by
  rw [on_of h0]
  exact s_iald X c h hc hb (by omega) hn (by rw [ofi_to] at g; exact g)
theorem z_ast (X : AX k mn dT) (c : Nat) {n q : Nat} {i e : Int} (h : cdA mn pc = some (.iastore, 1, 0, 0, 0)) (hc : c < 518) (hb : bsS c = .inl (0, n, .inr (0, 0, q))) (h0 : 0 ≤ i) (hi : i < (n : Int)) (hn : n < 2147483648) (g : WS k (pc + 1) lv st (Wd A dT (uC s q i.toNat (Int32.ofInt e))) ce sl) : WS k pc lv (.int (Int32.ofInt e) :: .int (Int32.ofInt i) :: .ref (A c) :: st) (Wd A dT s) ce sl := by
  rw [on_of h0]
  exact s_iast X c h hc hb (by omega) hn g
theorem z_zald (X : AX k mn dT) (c : Nat) {n q : Nat} {i : Int} (h : cdA mn pc = some (.baload, 1, 0, 0, 0)) (hc : c < 518) (hb : bsS c = .inl (2, n, .inr (0, 0, q))) (h0 : 0 ≤ i) (hi : i < (n : Int)) (hn : n < 2147483648) (g : WS k (pc + 1) lv (.int (Int32.ofInt (iC s q i.toNat)) :: st) (Wd A dT s) ce sl) : WS k pc lv (.int (Int32.ofInt i) :: .ref (A c) :: st) (Wd A dT s) ce sl := by
  rw [on_of h0]
  exact s_zald X c h hc hb (by omega) hn (by rw [ofi_to] at g; exact g)
theorem nar_01 {e : Int} (h : e = 0 ∨ e = 1) : vp_nar .boolean (Int32.ofInt e) = Int32.ofInt e := by rcases h with h | h <;> subst h <;> decide
theorem z_zast (X : AX k mn dT) (c : Nat) {n q : Nat} {i e : Int} (h : cdA mn pc = some (.bastore, 1, 0, 0, 0)) (hc : c < 518) (hb : bsS c = .inl (2, n, .inr (0, 0, q))) (h0 : 0 ≤ i) (hi : i < (n : Int)) (hn : n < 2147483648) (he : e = 0 ∨ e = 1) (g : WS k (pc + 1) lv st (Wd A dT (uC s q i.toNat (Int32.ofInt e))) ce sl) : WS k pc lv (.int (Int32.ofInt e) :: .int (Int32.ofInt i) :: .ref (A c) :: st) (Wd A dT s) ce sl := by
  rw [on_of h0]
  exact s_zast X c h hc hb (by omega) hn (nar_01 he) g
end ZR
/-! Contracts over the picture -/
/-- the method mn, called with vals at the picture s, ends as Q says -/
def CT (l : Launch) (s0 : State) (D : va_G) (A : Nat → Nat) (dT : Nat → ClassId) (mn : Nat) (rm : Room) (vals : List Value) (s : PS) (Q : mb_O → PS → Prop) : Prop :=
  MB l s0 D (yA mn) (.code (yA mn) (byA mn) (mNL (miB mn)) (rtA mn)) rm vals (Wd A dT s) (fun o ws => ∃ s', ws = Wd A dT s' ∧ Q o s')
/-- what is known of the program, whatever the activation -/
def GX (l : Launch) (s0 : State) (D : va_G) (tys : List (ClassId × FieldType)) (a0 : Array Value) (dT : Nat → ClassId) : Prop := z0_ok l s0 a0 D tys ∧ (∀ t, tys[min t 5]? = some (dT t, tyF t)) ∧ ncX s0
section CTR
variable {l : Launch} {s0 : State} {D : va_G} {tys : List (ClassId × FieldType)} {a0 : Array Value} {A : Nat → Nat} {dT : Nat → ClassId} {s : PS}
/-- a contract by a walk of the body -/
theorem ct_of (G : GX l s0 D tys a0 dT) {mn : Nat} {rm : Room} {vals : List Value} {Q : mb_O → PS → Prop} (hy : plainName (yA mn).cls = true) (hn : (lg_sl vals).length ≤ mNL (miB mn))
    (body : ∀ k, AX k mn dT → (kL k = l ∧ kS0 k = s0 ∧ kD k = D ∧ kR k = rm) → (kMe k).sig.returnType = rtA mn → (∀ x ∈ (kC k).exceptionTable.toList, False) → kx_end k (fun o ws => ∃ s', ws = Wd A dT s' ∧ Q o s') rm.cells rm.slots → WS k 0 (lv_args 0 vals) [] (Wd A dT s) 0 0) : CT l s0 D A dT mn rm vals s Q :=
  mb_of G.1 hy hn (fun k C e1 e2 e3 e4 e5 e6 e7 e8 e9 e10 e11 qe => body k ⟨C, ⟨e7, e6, e8⟩, fun t => by rw [e5]; exact G.2.1 t, by rw [e3]; exact G.2.2⟩ ⟨e1, e3, e4, e2⟩ e9 e11 qe)
end CTR
section CL
variable {k : kx_T} {mn pc : Nat} {dT : Nat → ClassId} {lv : List (Nat × Value)} {st : List Value} {ce sl b : Nat} {z : Int} {A : Nat → Nat} {s : PS} {Q : mb_O → PS → Prop} {rm : Room}
/-- room for a call of cn -/
def rmK (k : kx_T) (cn : Nat) (rm : Room) (ce sl : Nat) : Prop := rm.frames + 1 ≤ (kR k).frames ∧ 8 + (mNL (miB cn) + 11) + rm.locals ≤ (kR k).locals ∧ ce + rm.cells ≤ (kR k).cells ∧ sl + rm.slots ≤ (kR k).slots
theorem z_callS (X : AX k mn dT) {idx cn : Nat} {As : List Value} (h : cdA mn pc = some (.invokestatic idx, 3, cn, 1, z)) (hn : mAr (miB cn) = As.length) (hM : CT (kL k) (kS0 k) (kD k) A dT cn rm As s Q) (hr : rmK k cn rm ce sl) (hw : (st.map fun v => v.category).sum ≤ 8)
    (h1 : ∀ v s', Q (.inl v) s' → WS k (pc + 3) lv (v.toList ++ st) (Wd A dT s') (ce + rm.cells) (sl + rm.slots)) (h2 : ∀ E s', Q (.inr E) s' → WX k pc lv st (Wd A dT s') E (ce + rm.cells) (sl + rm.slots)) : WS k pc lv (As.reverse ++ st) (Wd A dT s) ce sl := by
  have hq := (ax_r X h).2.2
  rcases hq with ⟨q, -⟩ | ⟨q, -⟩ | ⟨q, -⟩ | ⟨-, -, q1, q2, q3⟩
  · cases q
  · cases q
  · cases q
  · replace q3 : mtX cx0 yA byA rtA hhA cn (mAr (miB cn)) := q3
    rw [hn] at q3
    obtain ⟨r1, r2, r3⟩ := hr
    have q4 : Cond.code (yA cn) (byA cn) (mNL (miB cn)) (rtA cn) ∈ gT := by
      have hh : hhA cn = [] := by
        have := (ax_r X h).2.2
        rcases this with ⟨q, -⟩ | ⟨q, -⟩ | ⟨q, -⟩ | ⟨-, q5, -⟩
        · cases q
        · cases q
        · cases q
        · exact q5.mp rfl
      exact cd_code hh q3.1
    exact w_callS (K := fun o ws => ∃ s', ws = Wd A dT s' ∧ Q o s') (rm := rm) X.1 ⟨by rw [X.2.1.2.1]; exact q1, q4, q3.2.1, q3.2.2, r1, r2⟩ q2 hM rfl hw r3 (ax_d X h) (fun v ws' hk => hk.elim (fun s' hq => by rw [hq.1]; exact h1 v s' hq.2)) (fun E ws' hk => hk.elim (fun s' hq => by rw [hq.1]; exact h2 E s' hq.2))
theorem z_callV (X : AX k mn dT) (c : Nat) {idx cn : Nat} {fs : List AV} {As : List Value} (h : cdA mn pc = some (.invokevirtual idx, 3, cn, b, z)) (hn : mAr (miB cn) = As.length + 1) (hc : c < 518) (hb : bsS c = .inr (mCl (miB cn), fs)) (hM : CT (kL k) (kS0 k) (kD k) A dT cn rm (.ref (A c) :: As) s Q) (hr : rmK k cn rm ce sl) (hw : (st.map fun v => v.category).sum ≤ 8)
    (h1 : ∀ v s', Q (.inl v) s' → WS k (pc + 3) lv (v.toList ++ st) (Wd A dT s') (ce + rm.cells) (sl + rm.slots)) (h2 : ∀ E s', Q (.inr E) s' → WX k pc lv st (Wd A dT s') E (ce + rm.cells) (sl + rm.slots)) : WS k pc lv (As.reverse ++ .ref (A c) :: st) (Wd A dT s) ce sl := by
  obtain ⟨v0, v1, v2, v3, n, N, T, v4, v5, v6⟩ := (ax_r X h).2.2
  have en : n = As.length := by
    have v5 : mAr (miB cn) = n + 1 := v5
    omega
  subst en
  have he := Wd_get (A := A) (dT := dT) (s := s) hc
  rw [hb] at he
  obtain ⟨r1, r2, r3⟩ := hr
  exact w_callV (K := fun o ws => ∃ s', ws = Wd A dT s' ∧ Q o s') (rm := rm) X.1 ⟨by rw [X.2.1.2.1]; exact v1, cd_code v0 v4.1, v4.2.1, v4.2.2, r1, r2⟩ v2 v3 hM he v6 rfl hw r3 (ax_d X h) (fun v ws' hk => hk.elim (fun s' hq => by rw [hq.1]; exact h1 v s' hq.2)) (fun E ws' hk => hk.elim (fun s' hq => by rw [hq.1]; exact h2 E s' hq.2))
end CL
