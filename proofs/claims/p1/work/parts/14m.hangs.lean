/-! The model's hangs, walked by hand -/
theorem on_int {a : Nat} (ha : a < 2147483648) : (Int32.ofNat a).toInt = a := Int32.toInt_ofNat_of_lt (by omega)
theorem on_le {a b : Nat} (ha : a < 2147483648) (hb : b < 2147483648) : Int32.ofNat a ≤ Int32.ofNat b ↔ a ≤ b := by
  rw [Int32.le_iff_toInt_le, on_int ha, on_int hb]; omega
theorem on_lt {a b : Nat} (ha : a < 2147483648) (hb : b < 2147483648) : Int32.ofNat a < Int32.ofNat b ↔ a < b := by
  rw [Int32.lt_iff_toInt_lt, on_int ha, on_int hb]; omega
theorem on_cl {a : Nat} (ha : a < 2147483648) : (Int32.ofNat a).toNatClampNeg = a := by
  unfold Int32.toNatClampNeg; rw [on_int ha]; rfl
theorem on_in {a n : Nat} (h : a < n) (hn : n < 2147483648) : vp_in (Int32.ofNat a) n := by
  rintro (q | q)
  · rw [Int32.lt_iff_toInt_lt, on_int (by omega)] at q
    have e0 : (0 : Int32).toInt = 0 := rfl
    omega
  · rw [on_cl (by omega)] at q; omega
theorem on_up (a : Nat) : Int32.ofNat a + Int32.ofInt 1 = Int32.ofNat (a + 1) := by rw [Int32.ofNat_add]; rfl
theorem on_nn {a : Nat} (ha : a < 2147483648) : ¬ Int32.ofNat a < 0 := by
  rw [Int32.lt_iff_toInt_lt, on_int ha]; simp
theorem on_n1 {a : Nat} (ha : a < 2147483648) : ¬ Int32.ofNat a = Int32.ofInt (-1) := fun q => by
  have := congrArg Int32.toInt q
  rw [on_int ha] at this
  have e : (Int32.ofInt (-1)).toInt = -1 := by decide
  omega
/-- behind d cells, from the last on: how many of the set, its first -/
def cnd (s : Nat) : Nat → Nat
  | 0 => 0
  | d + 1 => cnd s d + (bif s.testBit (127 - d) then 1 else 0)
def frd (s : Nat) : Nat → Option Nat
  | 0 => none
  | d + 1 => bif s.testBit (127 - d) then some (127 - d) else frd s d
def frI (s d : Nat) : Int32 := match frd s d with
  | some f => Int32.ofNat f
  | none => Int32.ofInt (-1)
theorem cnd_bct (s : Nat) : ∀ d, d ≤ 128 → cnd s d + bct s.testBit (128 - d) = bct s.testBit 128
  | 0, _ => Nat.zero_add _
  | d + 1, h => by
    rw [← cnd_bct s d (by omega)]
    have e : 128 - d = (127 - d) + 1 := by omega
    have e2 : 128 - (d + 1) = 127 - d := by omega
    rw [e, e2]
    show cnd s d + _ + _ = cnd s d + (bct s.testBit (127 - d) + _)
    omega
theorem cnd_all (s : Nat) : cnd s 128 = bct s.testBit 128 := by
  have h := cnd_bct s 128 (Nat.le_refl _)
  generalize cnd s 128 = a at h ⊢
  generalize bct s.testBit 128 = b at h ⊢
  exact h
theorem frd_ok {s f : Nat} : ∀ {d}, frd s d = some f → f < 128 ∧ s.testBit f = true
  | 0, h => by cases h
  | d + 1, h => by
    unfold frd at h
    cases hb : s.testBit (127 - d) with
    | true => rw [hb] at h; cases h; exact ⟨by omega, hb⟩
    | false => rw [hb] at h; exact frd_ok h
theorem cnd_s {s d e : Nat} (he : e = 127 - d) : cnd s (d + 1) = cnd s d + (bif s.testBit e then 1 else 0) := by subst he; rfl
theorem frI_s {s d e : Nat} (he : e = 127 - d) : frI s (d + 1) = bif s.testBit e then Int32.ofNat e else frI s d := by
  subst he
  unfold frI
  show (match (bif s.testBit (127 - d) then some (127 - d) else frd s d) with | some f => Int32.ofNat f | none => Int32.ofInt (-1)) = _
  cases s.testBit (127 - d) <;> rfl
theorem cnd_le (s : Nat) : ∀ d, cnd s d ≤ d
  | 0 => Nat.le_refl _
  | d + 1 => by have := cnd_le s d; unfold cnd; cases s.testBit (127 - d) <;> simp <;> omega
/-- the search and what the arrays hold -/
def HgJ (s f kk t n : Nat) (fM fH : Nat → Int32) : Prop :=
  BfI s f kk t n (fun i => (fH i).toNatClampNeg) (fun c => decide (fM c = 1)) ∧ (∀ i, i < n → fH i = Int32.ofNat (fH i).toNatClampNeg) ∧ (∀ j, fM j = 0 ∨ fM j = 1) ∧ (∀ j, 128 ≤ j → fM j = 0) ∧ (∀ j, 128 ≤ j → fH j = 0)
theorem hj_n {s f kk t n : Nat} {fM fH : Nat → Int32} (J : HgJ s f kk t n fM fH) : n ≤ 128 := by
  have := J.1.2.2.2.1
  rw [← this]; exact bct_le _ _
theorem hj_skip {s f kk t n : Nat} {fM fH : Nat → Int32} (J : HgJ s f kk t n fM fH) (h : ∀ d, bsd (fH kk).toNatClampNeg t = some d → s.testBit d = true → fM d = 1) : HgJ s f kk (t + 1) n fM fH :=
  ⟨bf_skip J.1 (fun d h1 h2 => decide_eq_true (h d h1 h2)), J.2⟩
theorem hj_take {s f kk t n e : Nat} {fM fH : Nat → Int32} (J : HgJ s f kk t n fM fH) (hk : kk < n) (hn : n < 128) (he : bsd (fH kk).toNatClampNeg t = some e) (hs : s.testBit e = true) (hm : fM e = 0) (h128 : e < 128) : HgJ s f kk (t + 1) (n + 1) (upd fM e 1) (upd fH n (Int32.ofNat e)) := by
  have en : (Int32.ofNat e).toNatClampNeg = e := on_cl (by omega)
  refine ⟨bf_take J.1 hk he hs (by rw [hm]; rfl) (by simp [upd]) (fun c hc => by simp [upd, hc]) (by simp [upd, en]) (fun i hi => by simp [upd, hi]), fun i hi => ?_, fun j => ?_, fun j hj => ?_, fun j hj => ?_⟩
  · by_cases q : i = n
    · subst q; simp [upd, en]
    · simp only [upd, if_neg q]; exact J.2.1 i (by omega)
  · by_cases q : j = e
    · subst q; simp [upd]
    · simp only [upd, if_neg q]; exact J.2.2.1 j
  · simp only [upd, if_neg (show ¬ j = e by omega)]; exact J.2.2.2.1 j hj
  · simp only [upd, if_neg (show ¬ j = n by omega)]; exact J.2.2.2.2 j hj
theorem hj_start {s f : Nat} {fM fH : Nat → Int32} (hf : f < 128) (hs : s.testBit f = true) (h1 : ∀ j, fM j = 0 ∨ fM j = 1) (h2 : ∀ j, 128 ≤ j → fM j = 0) (h3 : ∀ j, 128 ≤ j → fH j = 0) (h4 : ∀ j, j < 128 → fM j = 0) : HgJ s f 0 0 1 (upd fM f 1) (upd fH 0 (Int32.ofNat f)) := by
  have en : (Int32.ofNat f).toNatClampNeg = f := on_cl (by omega)
  refine ⟨bf_start hf hs (by simp [upd, en]) (fun c hc => ?_), fun i hi => ?_, fun j => ?_, fun j hj => ?_, fun j hj => ?_⟩
  · by_cases q : c = f
    · subst q; simp [upd]
    · simp [upd, q, h4 c hc]
  · have : i = 0 := by omega
    subst this; simp [upd, en]
  · by_cases q : j = f
    · subst q; simp [upd]
    · simp only [upd, if_neg q]; exact h1 j
  · simp only [upd, if_neg (show ¬ j = f by omega)]; exact h2 j hj
  · simp only [upd, if_neg (show ¬ j = 0 by omega)]; exact h3 j hj
theorem hg_body {k : kx_T} {ws : va_W} {Wd : (Nat → Int32) → (Nat → Int32) → va_W} {qt qS qM qH bt aS aM aH N s mc ms : Nat} {cz ci : ClassId} {fs : List Value} {fS fM0 fH0 : Nat → Int32} {K : mb_O → va_W → Prop} {Cn : String} {T : u_T} {ty : Nat → FieldType} {rm : Room}
    (C : kx_ok k) (e7 : kCc k = cX12_hangs) (eN : kN k = 7) (e9 : (kMe k).sig.returnType = some .boolean) (q : kx_end k K mc ms)
    (hc : cl_ok 12 N Cn T ty) (n37 : 37 < N) (n38 : 38 < N) (n39 : 39 < N) (l37 : Cond.fieldLink (kOwn k) 76 (T 37).1 (T 37).2.1 (T 37).2.2.1 ∈ gT) (l38 : Cond.fieldLink (kOwn k) 80 (T 38).1 (T 38).2.1 (T 38).2.2.1 ∈ gT) (l39 : Cond.fieldLink (kOwn k) 83 (T 39).1 (T 39).2.1 (T 39).2.2.1 ∈ gT)
    (tz : (kTy k)[2]? = some (cz, .boolean)) (ti : (kTy k)[0]? = some (ci, .int))
    (hst : Cond.static yX12_beside ∈ gT) (cb : cb_ok k 223 yX12_beside cX12_beside 5 (some .int) rm 2) (r1 : rm.cells = 0) (r2 : rm.slots = 0)
    (hM : ∀ c t, c < 128 → t < 6 → ∀ ws, MB (kL k) (kS0 k) (kD k) yX12_beside (.code yX12_beside cX12_beside 5 (some .int)) rm [.int (Int32.ofNat c), .int (Int32.ofNat t)] ws (fun o ws' => o = .inl (some (.int (rB c t))) ∧ ws' = ws))
    (P1 : ∀ fM fH, (Wd fM fH)[qt]? = some (bt, .inr (12, fs))) (f37 : fs[37]? = some (.ref aS)) (f38 : fs[38]? = some (.ref aM)) (f39 : fs[39]? = some (.ref aH))
    (P2 : ∀ fM fH, (Wd fM fH)[qS]? = some (aS, .inl (cz, 128, .inl fS))) (P3 : ∀ fM fH, (Wd fM fH)[qM]? = some (aM, .inl (cz, 128, .inl fM))) (P4 : ∀ fM fH, (Wd fM fH)[qH]? = some (aH, .inl (ci, 128, .inl fH)))
    (P5 : ∀ fM fH g, (Wd fM fH).set qM (aM, .inl (cz, 128, .inl g)) = Wd g fH) (P6 : ∀ fM fH g, (Wd fM fH).set qH (aH, .inl (ci, 128, .inl g)) = Wd fM g) (P7 : Wd fM0 fH0 = ws)
    (hS : ∀ c, c < 128 → fS c = bif s.testBit c then 1 else 0) (bM : ∀ j, fM0 j = 0 ∨ fM0 j = 1) (zM : ∀ j, 128 ≤ j → fM0 j = 0) (zH : ∀ j, 128 ≤ j → fH0 j = 0)
    (hgoal : ∀ fM fH, (∀ j, fM j = 0 ∨ fM j = 1) → (∀ j, 128 ≤ j → fM j = 0) → (∀ j, 128 ≤ j → fH j = 0) → K (.inl (some (.int 1))) (Wd fM fH))
    (hf : frd s 128 = none ∨ ∃ f, frd s 128 = some f ∧ flK s f = true) : WS k 0 (lv_args 0 [.ref bt]) [] ws 0 0 := by
  have d : ∀ {pc : Nat} {q : Instr × Nat}, decode cX12_hangs pc = .ok q → decode (kCc k) pc = .ok q := fun h => by rw [e7]; exact h
  have nz0 : vp_nar .boolean (Int32.ofInt 0) = 0 := by decide
  have nz1 : vp_nar .boolean (Int32.ofInt 1) = 1 := by decide
  have ret : ∀ {pc : Nat} {lv : List (Nat × Value)} {fM fH : Nat → Int32}, decode cX12_hangs pc = .ok (.ireturn, 1) → (∀ j, fM j = 0 ∨ fM j = 1) → (∀ j, 128 ≤ j → fM j = 0) → (∀ j, 128 ≤ j → fH j = 0) → WS k pc lv [.int (Int32.ofInt 1)] (Wd fM fH) 0 0 := fun dd h1 h2 h3 => w_iret C q e9 (by decide) (d dd) (Nat.zero_le _) (Nat.zero_le _) (hgoal _ _ h1 h2 h3)
  have L2 : ∀ f, frd s 128 = some f → flK s f = true → ∀ r kk, kk + r = 128 → ∀ n fM fH, HgJ s f kk 0 n fM fH → WS k 90 [(0, .ref bt), (1, .int (Int32.ofNat n)), (2, .int (Int32.ofNat (cnd s 128))), (4, .int (Int32.ofNat kk))] [] (Wd fM fH) 0 0 := by
    intro f hf1 hf2 r
    induction r with
    | zero =>
      intro kk hk n fM fH J
      have hn := hj_n J
      refine w_iload C (i := 4) (x := Int32.ofNat kk) (d (by decide +kernel)) (List.Mem.tail _ (List.Mem.tail _ (List.Mem.tail _ (List.Mem.head _)))) ?_
      refine w_iload_n C (i := 1) (x := Int32.ofNat n) (d (by decide +kernel)) (List.Mem.tail _ (List.Mem.head _)) ?_
      refine w_icmp_ge C (off := 87) (t := 180) (d (by decide +kernel)) (by decide) (fun g => ?_) (fun g => ?_)
      ·
        have g : n ≤ kk := (on_le (by omega) (by omega)).mp g
        have e : kk = n := Nat.le_antisymm J.1.1 g
        subst e
        have e : kk = cnd s 128 := by rw [cnd_all]; exact bf_done J.1 hf2
        rw [← e]
        refine w_iload_n C (i := 1) (x := Int32.ofNat kk) (d (by decide +kernel)) (List.Mem.tail _ (List.Mem.head _)) ?_
        refine w_iload_n C (i := 2) (x := Int32.ofNat kk) (d (by decide +kernel)) (List.Mem.tail _ (List.Mem.tail _ (List.Mem.head _))) ?_
        refine w_icmp_ne C (off := 7) (t := 189) (d (by decide +kernel)) (by decide) (fun g => ?_) (fun g => ?_)
        ·
          exact absurd rfl g
        ·
          refine w_iconst C (n := 1) (d (by decide +kernel)) ?_
          refine w_goto C (off := 4) (t := 190) (d (by decide +kernel)) (by decide) ?_
          exact ret (by decide +kernel) J.2.2.1 J.2.2.2.1 J.2.2.2.2
      ·
        exact absurd ((on_le (by omega) (by omega)).mpr (by omega)) g
    | succ r ih =>
      intro kk hk n fM fH J
      have hn := hj_n J
      refine w_iload C (i := 4) (x := Int32.ofNat kk) (d (by decide +kernel)) (List.Mem.tail _ (List.Mem.tail _ (List.Mem.tail _ (List.Mem.head _)))) ?_
      refine w_iload_n C (i := 1) (x := Int32.ofNat n) (d (by decide +kernel)) (List.Mem.tail _ (List.Mem.head _)) ?_
      refine w_icmp_ge C (off := 87) (t := 180) (d (by decide +kernel)) (by decide) (fun g => ?_) (fun g => ?_)
      ·
        have g : n ≤ kk := (on_le (by omega) (by omega)).mp g
        have e : kk = n := Nat.le_antisymm J.1.1 g
        subst e
        have e : kk = cnd s 128 := by rw [cnd_all]; exact bf_done J.1 hf2
        rw [← e]
        refine w_iload_n C (i := 1) (x := Int32.ofNat kk) (d (by decide +kernel)) (List.Mem.tail _ (List.Mem.head _)) ?_
        refine w_iload_n C (i := 2) (x := Int32.ofNat kk) (d (by decide +kernel)) (List.Mem.tail _ (List.Mem.tail _ (List.Mem.head _))) ?_
        refine w_icmp_ne C (off := 7) (t := 189) (d (by decide +kernel)) (by decide) (fun g => ?_) (fun g => ?_)
        ·
          exact absurd rfl g
        ·
          refine w_iconst C (n := 1) (d (by decide +kernel)) ?_
          refine w_goto C (off := 4) (t := 190) (d (by decide +kernel)) (by decide) ?_
          exact ret (by decide +kernel) J.2.2.1 J.2.2.2.1 J.2.2.2.2
      ·
        have hkn : kk < n := Nat.lt_of_not_le (fun q => g ((on_le (by omega) (by omega)).mpr q))
        clear g
        suffices LI : ∀ u t, t + u = 6 → ∀ n fM fH, HgJ s f kk t n fM fH → kk < n → WS k 99 [(0, .ref bt), (1, .int (Int32.ofNat n)), (2, .int (Int32.ofNat (cnd s 128))), (4, .int (Int32.ofNat kk)), (5, .int (Int32.ofNat t))] [] (Wd fM fH) 0 0 by
          refine w_iconst C (n := 0) (d (by decide +kernel)) ?_
          refine w_istore C (i := 5) (lv' := [(5, .int (Int32.ofInt 0)), (0, .ref bt), (1, .int (Int32.ofNat n)), (2, .int (Int32.ofNat (cnd s 128))), (4, .int (Int32.ofNat kk))]) (d (by decide +kernel)) (by rw [eN]; decide) (fun _ h => h) ?_
          exact WS_lv (lv := [(0, .ref bt), (1, .int (Int32.ofNat n)), (2, .int (Int32.ofNat (cnd s 128))), (4, .int (Int32.ofNat kk)), (5, .int (Int32.ofInt 0))]) (List.forall_mem_cons.mpr ⟨(List.Mem.tail _ (List.Mem.head _)), (List.forall_mem_cons.mpr ⟨(List.Mem.tail _ (List.Mem.tail _ (List.Mem.head _))), (List.forall_mem_cons.mpr ⟨(List.Mem.tail _ (List.Mem.tail _ (List.Mem.tail _ (List.Mem.head _)))), (List.forall_mem_cons.mpr ⟨(List.Mem.tail _ (List.Mem.tail _ (List.Mem.tail _ (List.Mem.tail _ (List.Mem.head _))))), (List.forall_mem_cons.mpr ⟨(List.Mem.head _), (fun q h => absurd h List.not_mem_nil)⟩)⟩)⟩)⟩)⟩) (LI 6 0 rfl n fM fH J hkn)
        clear J hn hkn
        intro u
        induction u with
        | zero =>
            intro t ht n fM fH J hkn
            have hn := hj_n J
            refine w_iload C (i := 5) (x := Int32.ofNat t) (d (by decide +kernel)) (List.Mem.tail _ (List.Mem.tail _ (List.Mem.tail _ (List.Mem.tail _ (List.Mem.head _))))) ?_
            refine w_bipush C (n := 6) (z := 6) (d (by decide +kernel)) (by decide) ?_
            refine w_icmp_ge C (off := 71) (t := 174) (d (by decide +kernel)) (by decide) (fun g => ?_) (fun g => ?_)
            ·
              have et : t = 6 := by omega
              subst et
              refine w_iinc C (i := 4) (n := 1) (x := Int32.ofNat kk) (lv' := [(4, .int (Int32.ofNat (kk + 1))), (0, .ref bt), (1, .int (Int32.ofNat n)), (2, .int (Int32.ofNat (cnd s 128))), (5, .int (Int32.ofNat 6))]) (d (by decide +kernel)) (by rw [eN]; decide) (List.Mem.tail _ (List.Mem.tail _ (List.Mem.tail _ (List.Mem.head _)))) (fun _ h => by rw [on_up]; exact h) ?_
              refine w_goto C (off := (-87)) (t := 90) (d (by decide +kernel)) (by decide) ?_
              exact WS_lv (lv := [(0, .ref bt), (1, .int (Int32.ofNat n)), (2, .int (Int32.ofNat (cnd s 128))), (4, .int (Int32.ofNat (kk + 1)))]) (List.forall_mem_cons.mpr ⟨(List.Mem.tail _ (List.Mem.head _)), (List.forall_mem_cons.mpr ⟨(List.Mem.tail _ (List.Mem.tail _ (List.Mem.head _))), (List.forall_mem_cons.mpr ⟨(List.Mem.tail _ (List.Mem.tail _ (List.Mem.tail _ (List.Mem.head _)))), (List.forall_mem_cons.mpr ⟨(List.Mem.head _), (fun q h => absurd h List.not_mem_nil)⟩)⟩)⟩)⟩) (ih (kk + 1) (by omega) n fM fH ⟨bf_next J.1 hkn, J.2⟩)
            ·
              exact absurd ((on_le (a := 6) (by omega) (by omega)).mpr (by omega)) g
        | succ u iu =>
            intro t ht n fM fH J hkn
            have hn := hj_n J
            refine w_iload C (i := 5) (x := Int32.ofNat t) (d (by decide +kernel)) (List.Mem.tail _ (List.Mem.tail _ (List.Mem.tail _ (List.Mem.tail _ (List.Mem.head _))))) ?_
            refine w_bipush C (n := 6) (z := 6) (d (by decide +kernel)) (by decide) ?_
            refine w_icmp_ge C (off := 71) (t := 174) (d (by decide +kernel)) (by decide) (fun g => ?_) (fun g => ?_)
            ·
              exact absurd ((on_le (a := 6) (by omega) (by omega)).mp g) (by omega)
            ·
              clear g
              have hh := J.1.2.1 kk hkn
              have eh := J.2.1 kk hkn
              have hk1 : fH (Int32.ofNat kk).toNatClampNeg = Int32.ofNat (fH kk).toNatClampNeg := by rw [on_cl (by omega)]; exact eh
              have h128 : (fH kk).toNatClampNeg < 128 := hh.1
              refine w_aload_n C (i := 0) (x := bt) (d (by decide +kernel)) (List.Mem.head _) ?_
              refine w_get C qt hc (P1 _ _) n39 l39 f39 (d (by decide +kernel)) ?_
              refine w_iload C (i := 4) (x := Int32.ofNat kk) (d (by decide +kernel)) (List.Mem.tail _ (List.Mem.tail _ (List.Mem.tail _ (List.Mem.head _)))) ?_
              refine w_iald C qH (P4 _ _) ti (on_in (by omega) (by omega)) (d (by decide +kernel)) ?_
              rw [hk1]
              refine w_iload C (i := 5) (x := Int32.ofNat t) (d (by decide +kernel)) (List.Mem.tail _ (List.Mem.tail _ (List.Mem.tail _ (List.Mem.tail _ (List.Mem.head _))))) ?_
              refine w_callS (As := [.int (Int32.ofNat (fH kk).toNatClampNeg), .int (Int32.ofNat t)]) C cb hst (hM _ _ h128 (by omega) _) rfl (by decide) ⟨by rw [r1]; exact Nat.zero_le _, by rw [r2]; exact Nat.zero_le _⟩ (d (by decide +kernel)) (fun v ws' hK => ?_) (fun E ws' hK => by cases hK.1)
              obtain ⟨hv, rfl⟩ := hK
              cases hv
              rw [r1, r2]
              show WS k 118 [(0, .ref bt), (1, .int (Int32.ofNat n)), (2, .int (Int32.ofNat (cnd s 128))), (4, .int (Int32.ofNat kk)), (5, .int (Int32.ofNat t))] [.int (rB (fH kk).toNatClampNeg t)] (Wd fM fH) 0 0
              cases hb : bsd (fH kk).toNatClampNeg t with
              | none =>
                  rw [show rB (fH kk).toNatClampNeg t = Int32.ofInt (-1) by unfold rB; rw [hb]; rfl]
                  refine w_istore C (i := 6) (lv' := [(6, .int (Int32.ofInt (-1))), (0, .ref bt), (1, .int (Int32.ofNat n)), (2, .int (Int32.ofNat (cnd s 128))), (4, .int (Int32.ofNat kk)), (5, .int (Int32.ofNat t))]) (d (by decide +kernel)) (by rw [eN]; decide) (fun _ h => h) ?_
                  refine w_iload C (i := 6) (x := Int32.ofInt (-1)) (d (by decide +kernel)) (List.Mem.head _) ?_
                  refine w_iconst C (n := (-1)) (d (by decide +kernel)) ?_
                  refine w_icmp_eq C (off := 45) (t := 168) (d (by decide +kernel)) (by decide) (fun g => ?_) (fun g => ?_)
                  ·
                    refine w_iinc C (i := 5) (n := 1) (x := Int32.ofNat t) (lv' := [(5, .int (Int32.ofNat (t + 1))), (6, .int (Int32.ofInt (-1))), (0, .ref bt), (1, .int (Int32.ofNat n)), (2, .int (Int32.ofNat (cnd s 128))), (4, .int (Int32.ofNat kk))]) (d (by decide +kernel)) (by rw [eN]; decide) (List.Mem.tail _ (List.Mem.tail _ (List.Mem.tail _ (List.Mem.tail _ (List.Mem.tail _ (List.Mem.head _)))))) (fun _ h => by rw [on_up]; exact h) ?_
                    refine w_goto C (off := (-72)) (t := 99) (d (by decide +kernel)) (by decide) ?_
                    exact WS_lv (lv := [(0, .ref bt), (1, .int (Int32.ofNat n)), (2, .int (Int32.ofNat (cnd s 128))), (4, .int (Int32.ofNat kk)), (5, .int (Int32.ofNat (t + 1)))]) (List.forall_mem_cons.mpr ⟨(List.Mem.tail _ (List.Mem.tail _ (List.Mem.head _))), (List.forall_mem_cons.mpr ⟨(List.Mem.tail _ (List.Mem.tail _ (List.Mem.tail _ (List.Mem.head _)))), (List.forall_mem_cons.mpr ⟨(List.Mem.tail _ (List.Mem.tail _ (List.Mem.tail _ (List.Mem.tail _ (List.Mem.head _))))), (List.forall_mem_cons.mpr ⟨(List.Mem.tail _ (List.Mem.tail _ (List.Mem.tail _ (List.Mem.tail _ (List.Mem.tail _ (List.Mem.head _)))))), (List.forall_mem_cons.mpr ⟨(List.Mem.head _), (fun q h => absurd h List.not_mem_nil)⟩)⟩)⟩)⟩)⟩) (iu (t + 1) (by omega) n fM fH (hj_skip J (fun d h _ => by rw [hb] at h; cases h)) hkn)
                  ·
                    exact absurd rfl g
              | some e =>
                  have he : e < 128 := bsd_lt hb h128
                  rw [show rB (fH kk).toNatClampNeg t = Int32.ofNat e by unfold rB; rw [hb]]
                  refine w_istore C (i := 6) (lv' := [(6, .int (Int32.ofNat e)), (0, .ref bt), (1, .int (Int32.ofNat n)), (2, .int (Int32.ofNat (cnd s 128))), (4, .int (Int32.ofNat kk)), (5, .int (Int32.ofNat t))]) (d (by decide +kernel)) (by rw [eN]; decide) (fun _ h => h) ?_
                  refine w_iload C (i := 6) (x := Int32.ofNat e) (d (by decide +kernel)) (List.Mem.head _) ?_
                  refine w_iconst C (n := (-1)) (d (by decide +kernel)) ?_
                  refine w_icmp_eq C (off := 45) (t := 168) (d (by decide +kernel)) (by decide) (fun g => ?_) (fun g => ?_)
                  ·
                    exact absurd g (on_n1 (by omega))
                  ·
                    clear g
                    refine w_aload_n C (i := 0) (x := bt) (d (by decide +kernel)) (List.Mem.tail _ (List.Mem.head _)) ?_
                    refine w_get C qt hc (P1 _ _) n37 l37 f37 (d (by decide +kernel)) ?_
                    refine w_iload C (i := 6) (x := Int32.ofNat e) (d (by decide +kernel)) (List.Mem.head _) ?_
                    have hs1 : fS (Int32.ofNat e).toNatClampNeg = bif s.testBit e then 1 else 0 := by rw [on_cl (by omega)]; exact hS e he
                    refine w_zald C qS (P2 _ _) tz (on_in he (by omega)) (d (by decide +kernel)) ?_
                    rw [hs1]
                    cases hse : s.testBit e with
                    | false =>
                        show WS k 133 [(6, .int (Int32.ofNat e)), (0, .ref bt), (1, .int (Int32.ofNat n)), (2, .int (Int32.ofNat (cnd s 128))), (4, .int (Int32.ofNat kk)), (5, .int (Int32.ofNat t))] [.int 0] (Wd fM fH) 0 0
                        refine w_if_eq C (off := 35) (t := 168) (d (by decide +kernel)) (by decide) (fun g => ?_) (fun g => ?_)
                        ·
                          refine w_iinc C (i := 5) (n := 1) (x := Int32.ofNat t) (lv' := [(5, .int (Int32.ofNat (t + 1))), (6, .int (Int32.ofNat e)), (0, .ref bt), (1, .int (Int32.ofNat n)), (2, .int (Int32.ofNat (cnd s 128))), (4, .int (Int32.ofNat kk))]) (d (by decide +kernel)) (by rw [eN]; decide) (List.Mem.tail _ (List.Mem.tail _ (List.Mem.tail _ (List.Mem.tail _ (List.Mem.tail _ (List.Mem.head _)))))) (fun _ h => by rw [on_up]; exact h) ?_
                          refine w_goto C (off := (-72)) (t := 99) (d (by decide +kernel)) (by decide) ?_
                          exact WS_lv (lv := [(0, .ref bt), (1, .int (Int32.ofNat n)), (2, .int (Int32.ofNat (cnd s 128))), (4, .int (Int32.ofNat kk)), (5, .int (Int32.ofNat (t + 1)))]) (List.forall_mem_cons.mpr ⟨(List.Mem.tail _ (List.Mem.tail _ (List.Mem.head _))), (List.forall_mem_cons.mpr ⟨(List.Mem.tail _ (List.Mem.tail _ (List.Mem.tail _ (List.Mem.head _)))), (List.forall_mem_cons.mpr ⟨(List.Mem.tail _ (List.Mem.tail _ (List.Mem.tail _ (List.Mem.tail _ (List.Mem.head _))))), (List.forall_mem_cons.mpr ⟨(List.Mem.tail _ (List.Mem.tail _ (List.Mem.tail _ (List.Mem.tail _ (List.Mem.tail _ (List.Mem.head _)))))), (List.forall_mem_cons.mpr ⟨(List.Mem.head _), (fun q h => absurd h List.not_mem_nil)⟩)⟩)⟩)⟩)⟩) (iu (t + 1) (by omega) n fM fH (hj_skip J (fun d h1 h2 => by rw [hb] at h1; cases h1; rw [hse] at h2; cases h2)) hkn)
                        ·
                          exact absurd rfl g
                    | true =>
                        show WS k 133 [(6, .int (Int32.ofNat e)), (0, .ref bt), (1, .int (Int32.ofNat n)), (2, .int (Int32.ofNat (cnd s 128))), (4, .int (Int32.ofNat kk)), (5, .int (Int32.ofNat t))] [.int 1] (Wd fM fH) 0 0
                        refine w_if_eq C (off := 35) (t := 168) (d (by decide +kernel)) (by decide) (fun g => ?_) (fun g => ?_)
                        ·
                          exact absurd g (by decide)
                        ·
                          clear g
                          refine w_aload_n C (i := 0) (x := bt) (d (by decide +kernel)) (List.Mem.tail _ (List.Mem.head _)) ?_
                          refine w_get C qt hc (P1 _ _) n38 l38 f38 (d (by decide +kernel)) ?_
                          refine w_iload C (i := 6) (x := Int32.ofNat e) (d (by decide +kernel)) (List.Mem.head _) ?_
                          have hm1 : fM (Int32.ofNat e).toNatClampNeg = fM e := by rw [on_cl (by omega)]
                          refine w_zald C qM (P3 _ _) tz (on_in he (by omega)) (d (by decide +kernel)) ?_
                          rw [hm1]
                          rcases J.2.2.1 e with hm | hm
                          ·
                            rw [hm]
                            refine w_if_eq C (off := 6) (t := 149) (d (by decide +kernel)) (by decide) (fun g => ?_) (fun g => ?_)
                            ·
                              clear g
                              have hn1 : n < 128 := bf_room J.1 he (by rw [hm]; rfl)
                              refine w_aload_n C (i := 0) (x := bt) (d (by decide +kernel)) (List.Mem.tail _ (List.Mem.head _)) ?_
                              refine w_get C qt hc (P1 _ _) n38 l38 f38 (d (by decide +kernel)) ?_
                              refine w_iload C (i := 6) (x := Int32.ofNat e) (d (by decide +kernel)) (List.Mem.head _) ?_
                              refine w_iconst C (n := 1) (d (by decide +kernel)) ?_
                              refine w_zast C qM (P3 _ _) tz (on_in he (by omega)) (d (by decide +kernel)) ?_
                              rw [P5, nz1, on_cl (by omega)]
                              refine w_aload_n C (i := 0) (x := bt) (d (by decide +kernel)) (List.Mem.tail _ (List.Mem.head _)) ?_
                              refine w_get C qt hc (P1 _ _) n39 l39 f39 (d (by decide +kernel)) ?_
                              refine w_iload_n C (i := 1) (x := Int32.ofNat n) (d (by decide +kernel)) (List.Mem.tail _ (List.Mem.tail _ (List.Mem.head _))) ?_
                              refine w_iload C (i := 6) (x := Int32.ofNat e) (d (by decide +kernel)) (List.Mem.head _) ?_
                              refine w_iast C qH (P4 _ _) ti (on_in hn1 (by omega)) (d (by decide +kernel)) ?_
                              rw [P6, on_cl (show n < 2147483648 by omega)]
                              refine w_iinc C (i := 1) (n := 1) (x := Int32.ofNat n) (lv' := [(1, .int (Int32.ofNat (n + 1))), (6, .int (Int32.ofNat e)), (0, .ref bt), (2, .int (Int32.ofNat (cnd s 128))), (4, .int (Int32.ofNat kk)), (5, .int (Int32.ofNat t))]) (d (by decide +kernel)) (by rw [eN]; decide) (List.Mem.tail _ (List.Mem.tail _ (List.Mem.head _))) (fun _ h => by rw [on_up]; exact h) ?_
                              refine w_iinc C (i := 5) (n := 1) (x := Int32.ofNat t) (lv' := [(5, .int (Int32.ofNat (t + 1))), (1, .int (Int32.ofNat (n + 1))), (6, .int (Int32.ofNat e)), (0, .ref bt), (2, .int (Int32.ofNat (cnd s 128))), (4, .int (Int32.ofNat kk))]) (d (by decide +kernel)) (by rw [eN]; decide) (List.Mem.tail _ (List.Mem.tail _ (List.Mem.tail _ (List.Mem.tail _ (List.Mem.tail _ (List.Mem.head _)))))) (fun _ h => by rw [on_up]; exact h) ?_
                              refine w_goto C (off := (-72)) (t := 99) (d (by decide +kernel)) (by decide) ?_
                              exact WS_lv (lv := [(0, .ref bt), (1, .int (Int32.ofNat (n + 1))), (2, .int (Int32.ofNat (cnd s 128))), (4, .int (Int32.ofNat kk)), (5, .int (Int32.ofNat (t + 1)))]) (List.forall_mem_cons.mpr ⟨(List.Mem.tail _ (List.Mem.tail _ (List.Mem.tail _ (List.Mem.head _)))), (List.forall_mem_cons.mpr ⟨(List.Mem.tail _ (List.Mem.head _)), (List.forall_mem_cons.mpr ⟨(List.Mem.tail _ (List.Mem.tail _ (List.Mem.tail _ (List.Mem.tail _ (List.Mem.head _))))), (List.forall_mem_cons.mpr ⟨(List.Mem.tail _ (List.Mem.tail _ (List.Mem.tail _ (List.Mem.tail _ (List.Mem.tail _ (List.Mem.head _)))))), (List.forall_mem_cons.mpr ⟨(List.Mem.head _), (fun q h => absurd h List.not_mem_nil)⟩)⟩)⟩)⟩)⟩) (iu (t + 1) (by omega) (n + 1) _ _ (hj_take J hkn hn1 hb hse hm he) (by omega))
                            ·
                              exact absurd rfl g
                          ·
                            rw [hm]
                            refine w_if_eq C (off := 6) (t := 149) (d (by decide +kernel)) (by decide) (fun g => ?_) (fun g => ?_)
                            ·
                              exact absurd g (by decide)
                            ·
                              refine w_goto C (off := 22) (t := 168) (d (by decide +kernel)) (by decide) ?_
                              refine w_iinc C (i := 5) (n := 1) (x := Int32.ofNat t) (lv' := [(5, .int (Int32.ofNat (t + 1))), (6, .int (Int32.ofNat e)), (0, .ref bt), (1, .int (Int32.ofNat n)), (2, .int (Int32.ofNat (cnd s 128))), (4, .int (Int32.ofNat kk))]) (d (by decide +kernel)) (by rw [eN]; decide) (List.Mem.tail _ (List.Mem.tail _ (List.Mem.tail _ (List.Mem.tail _ (List.Mem.tail _ (List.Mem.head _)))))) (fun _ h => by rw [on_up]; exact h) ?_
                              refine w_goto C (off := (-72)) (t := 99) (d (by decide +kernel)) (by decide) ?_
                              exact WS_lv (lv := [(0, .ref bt), (1, .int (Int32.ofNat n)), (2, .int (Int32.ofNat (cnd s 128))), (4, .int (Int32.ofNat kk)), (5, .int (Int32.ofNat (t + 1)))]) (List.forall_mem_cons.mpr ⟨(List.Mem.tail _ (List.Mem.tail _ (List.Mem.head _))), (List.forall_mem_cons.mpr ⟨(List.Mem.tail _ (List.Mem.tail _ (List.Mem.tail _ (List.Mem.head _)))), (List.forall_mem_cons.mpr ⟨(List.Mem.tail _ (List.Mem.tail _ (List.Mem.tail _ (List.Mem.tail _ (List.Mem.head _))))), (List.forall_mem_cons.mpr ⟨(List.Mem.tail _ (List.Mem.tail _ (List.Mem.tail _ (List.Mem.tail _ (List.Mem.tail _ (List.Mem.head _)))))), (List.forall_mem_cons.mpr ⟨(List.Mem.head _), (fun q h => absurd h List.not_mem_nil)⟩)⟩)⟩)⟩)⟩) (iu (t + 1) (by omega) n fM fH (hj_skip J (fun d h1 h2 => by rw [hb] at h1; cases h1; exact hm)) hkn)
  have L1 : ∀ r dd, dd + r = 128 → ∀ fM, (∀ j, fM j = 0 ∨ fM j = 1) → (∀ j, 128 ≤ j → fM j = 0) → (∀ j, 128 - dd ≤ j → fM j = 0) → WS k 10 [(0, .ref bt), (2, .int (Int32.ofNat (cnd s dd))), (3, .int (frI s dd)), (4, .int (Int32.ofInt (127 - (dd : Int))))] [] (Wd fM fH0) 0 0 := by
    intro r
    induction r with
    | zero =>
      intro dd hd fM h1 h2 h3
      have ed : dd = 128 := by omega
      subst ed
      refine w_iload C (i := 4) (x := Int32.ofInt (127 - ((128 : Nat) : Int))) (d (by decide +kernel)) (List.Mem.tail _ (List.Mem.tail _ (List.Mem.tail _ (List.Mem.head _)))) ?_
      refine w_if_lt C (off := 52) (t := 64) (d (by decide +kernel)) (by decide) (fun g => ?_) (fun g => ?_)
      ·
        rcases hf with hf | ⟨f, hf1, hf2⟩
        ·
          have e : frI s 128 = Int32.ofInt (-1) := by unfold frI; rw [hf]
          rw [e]
          refine w_iload_n C (i := 3) (x := Int32.ofInt (-1)) (d (by decide +kernel)) (List.Mem.tail _ (List.Mem.tail _ (List.Mem.head _))) ?_
          refine w_iconst C (n := (-1)) (d (by decide +kernel)) ?_
          refine w_icmp_ne C (off := 5) (t := 71) (d (by decide +kernel)) (by decide) (fun g => ?_) (fun g => ?_)
          ·
            exact absurd rfl g
          ·
            refine w_iconst C (n := 1) (d (by decide +kernel)) ?_
            exact ret (by decide +kernel) h1 h2 zH
        ·
          have e : frI s 128 = Int32.ofNat f := by unfold frI; rw [hf1]
          obtain ⟨hf3, hf4⟩ := frd_ok hf1
          rw [e]
          refine w_iload_n C (i := 3) (x := Int32.ofNat f) (d (by decide +kernel)) (List.Mem.tail _ (List.Mem.tail _ (List.Mem.head _))) ?_
          refine w_iconst C (n := (-1)) (d (by decide +kernel)) ?_
          refine w_icmp_ne C (off := 5) (t := 71) (d (by decide +kernel)) (by decide) (fun g => ?_) (fun g => ?_)
          ·
            refine w_aload_n C (i := 0) (x := bt) (d (by decide +kernel)) (List.Mem.head _) ?_
            refine w_get C qt hc (P1 _ _) n39 l39 f39 (d (by decide +kernel)) ?_
            refine w_iconst C (n := 0) (d (by decide +kernel)) ?_
            refine w_iload_n C (i := 3) (x := Int32.ofNat f) (d (by decide +kernel)) (List.Mem.tail _ (List.Mem.tail _ (List.Mem.head _))) ?_
            refine w_iast C qH (P4 _ _) ti (on_in (a := 0) (by omega) (by omega)) (d (by decide +kernel)) ?_
            rw [P6]
            refine w_aload_n C (i := 0) (x := bt) (d (by decide +kernel)) (List.Mem.head _) ?_
            refine w_get C qt hc (P1 _ _) n38 l38 f38 (d (by decide +kernel)) ?_
            refine w_iload_n C (i := 3) (x := Int32.ofNat f) (d (by decide +kernel)) (List.Mem.tail _ (List.Mem.tail _ (List.Mem.head _))) ?_
            refine w_iconst C (n := 1) (d (by decide +kernel)) ?_
            refine w_zast C qM (P3 _ _) tz (on_in hf3 (by omega)) (d (by decide +kernel)) ?_
            rw [P5, nz1, on_cl (by omega)]
            refine w_iconst C (n := 1) (d (by decide +kernel)) ?_
            refine w_istore_n C (i := 1) (lv' := [(1, .int (Int32.ofInt 1)), (0, .ref bt), (2, .int (Int32.ofNat (cnd s 128))), (3, .int (Int32.ofNat f)), (4, .int (Int32.ofInt (127 - ((128 : Nat) : Int))))]) (d (by decide +kernel)) (by rw [eN]; decide) (fun _ h => h) ?_
            refine w_iconst C (n := 0) (d (by decide +kernel)) ?_
            refine w_istore C (i := 4) (lv' := [(4, .int (Int32.ofInt 0)), (1, .int (Int32.ofInt 1)), (0, .ref bt), (2, .int (Int32.ofNat (cnd s 128))), (3, .int (Int32.ofNat f))]) (d (by decide +kernel)) (by rw [eN]; decide) (fun _ h => h) ?_
            exact WS_lv (lv := [(0, .ref bt), (1, .int (Int32.ofInt 1)), (2, .int (Int32.ofNat (cnd s 128))), (4, .int (Int32.ofInt 0))]) (List.forall_mem_cons.mpr ⟨(List.Mem.tail _ (List.Mem.tail _ (List.Mem.head _))), (List.forall_mem_cons.mpr ⟨(List.Mem.tail _ (List.Mem.head _)), (List.forall_mem_cons.mpr ⟨(List.Mem.tail _ (List.Mem.tail _ (List.Mem.tail _ (List.Mem.head _)))), (List.forall_mem_cons.mpr ⟨(List.Mem.head _), (fun q h => absurd h List.not_mem_nil)⟩)⟩)⟩)⟩) (L2 f hf1 hf2 128 0 rfl 1 _ _ (hj_start hf3 hf4 h1 h2 zH (fun j _ => h3 j (by omega))))
          ·
            exact absurd g (on_n1 (by omega))
      ·
        exact absurd (by decide) g
    | succ r ih =>
      intro dd hd fM h1 h2 h3
      obtain ⟨e, he⟩ : ∃ e, e = 127 - dd := ⟨_, rfl⟩
      have ec : Int32.ofInt (127 - (dd : Int)) = Int32.ofNat e := by rw [show (127 - (dd : Int)) = (e : Int) by omega]; rfl
      have hI : Int32.ofInt (127 - ((dd + 1 : Nat) : Int)) = Int32.ofNat e + Int32.ofInt (-1) := by rw [show (127 - ((dd + 1 : Nat) : Int)) = (e : Int) + (-1) by omega, Int32.ofInt_add]; rfl
      have he1 : e < 128 := by omega
      rw [ec]
      have hs1 : fS (Int32.ofNat e).toNatClampNeg = bif s.testBit e then 1 else 0 := by rw [on_cl (by omega)]; exact hS e he1
      have z := ih (dd + 1) (by omega) (upd fM e 0) (fun j => by unfold upd; split; exact Or.inl rfl; exact h1 j) (fun j hj => by unfold upd; split; rfl; exact h2 j hj) (fun j hj => by unfold upd; split; rfl; exact h3 j (by omega))
      rw [hI] at z
      refine w_iload C (i := 4) (x := Int32.ofNat e) (d (by decide +kernel)) (List.Mem.tail _ (List.Mem.tail _ (List.Mem.tail _ (List.Mem.head _)))) ?_
      refine w_if_lt C (off := 52) (t := 64) (d (by decide +kernel)) (by decide) (fun g => ?_) (fun g => ?_)
      ·
        exact absurd g (on_nn (by omega))
      ·
        clear g
        refine w_aload_n C (i := 0) (x := bt) (d (by decide +kernel)) (List.Mem.head _) ?_
        refine w_get C qt hc (P1 _ _) n38 l38 f38 (d (by decide +kernel)) ?_
        refine w_iload C (i := 4) (x := Int32.ofNat e) (d (by decide +kernel)) (List.Mem.tail _ (List.Mem.tail _ (List.Mem.tail _ (List.Mem.head _)))) ?_
        refine w_iconst C (n := 0) (d (by decide +kernel)) ?_
        refine w_zast C qM (P3 _ _) tz (on_in he1 (by omega)) (d (by decide +kernel)) ?_
        rw [P5, nz0, on_cl (by omega)]
        refine w_iload_n C (i := 2) (x := Int32.ofNat (cnd s dd)) (d (by decide +kernel)) (List.Mem.tail _ (List.Mem.head _)) ?_
        refine w_aload_n C (i := 0) (x := bt) (d (by decide +kernel)) (List.Mem.head _) ?_
        refine w_get C qt hc (P1 _ _) n37 l37 f37 (d (by decide +kernel)) ?_
        refine w_iload C (i := 4) (x := Int32.ofNat e) (d (by decide +kernel)) (List.Mem.tail _ (List.Mem.tail _ (List.Mem.tail _ (List.Mem.head _)))) ?_
        cases hb : s.testBit e with
        | false =>
            rw [hb] at hs1
            replace hs1 : fS (Int32.ofNat e).toNatClampNeg = 0 := hs1
            have hA : Int32.ofNat (cnd s (dd + 1)) = Int32.ofNat (cnd s dd) + Int32.ofInt 0 := by rw [cnd_s he, hb, Int32.ofNat_add]; rfl
            have hF : frI s (dd + 1) = frI s dd := by rw [frI_s he, hb]; rfl
            rw [hA, hF] at z
            refine w_zald C qS (P2 _ _) tz (on_in he1 (by omega)) (d (by decide +kernel)) ?_
            rw [hs1]
            refine w_if_eq C (off := 7) (t := 38) (d (by decide +kernel)) (by decide) (fun g => ?_) (fun g => ?_)
            ·
              clear g
              refine w_iconst C (n := 0) (d (by decide +kernel)) ?_
              refine w_iadd C (d (by decide +kernel)) ?_
              refine w_istore_n C (i := 2) (lv' := [(2, .int ((Int32.ofNat (cnd s dd)) + (Int32.ofInt 0))), (0, .ref bt), (3, .int (frI s dd)), (4, .int (Int32.ofNat e))]) (d (by decide +kernel)) (by rw [eN]; decide) (fun _ h => h) ?_
              refine w_aload_n C (i := 0) (x := bt) (d (by decide +kernel)) (List.Mem.tail _ (List.Mem.head _)) ?_
              refine w_get C qt hc (P1 _ _) n37 l37 f37 (d (by decide +kernel)) ?_
              refine w_iload C (i := 4) (x := Int32.ofNat e) (d (by decide +kernel)) (List.Mem.tail _ (List.Mem.tail _ (List.Mem.tail _ (List.Mem.head _)))) ?_
              refine w_zald C qS (P2 _ _) tz (on_in he1 (by omega)) (d (by decide +kernel)) ?_
              rw [hs1]
              refine w_if_eq C (off := 8) (t := 56) (d (by decide +kernel)) (by decide) (fun g => ?_) (fun g => ?_)
              ·
                refine w_iload_n C (i := 3) (x := frI s dd) (d (by decide +kernel)) (List.Mem.tail _ (List.Mem.tail _ (List.Mem.head _))) ?_
                refine w_istore_n C (i := 3) (lv' := [(3, .int (frI s dd)), (2, .int ((Int32.ofNat (cnd s dd)) + (Int32.ofInt 0))), (0, .ref bt), (4, .int (Int32.ofNat e))]) (d (by decide +kernel)) (by rw [eN]; decide) (fun _ h => h) ?_
                refine w_iinc C (i := 4) (n := (-1)) (x := Int32.ofNat e) (lv' := [(4, .int (Int32.ofNat e + Int32.ofInt (-1))), (3, .int (frI s dd)), (2, .int ((Int32.ofNat (cnd s dd)) + (Int32.ofInt 0))), (0, .ref bt)]) (d (by decide +kernel)) (by rw [eN]; decide) (List.Mem.tail _ (List.Mem.tail _ (List.Mem.tail _ (List.Mem.head _)))) (fun _ h => by rw [show Int32.ofNat e + Int32.ofInt (-1) = Int32.ofNat e + Int32.ofInt (-1) from rfl]; exact h) ?_
                refine w_goto C (off := (-51)) (t := 10) (d (by decide +kernel)) (by decide) ?_
                exact WS_lv (lv := [(0, .ref bt), (2, .int (Int32.ofNat (cnd s dd) + Int32.ofInt 0)), (3, .int (frI s dd)), (4, .int (Int32.ofNat e + Int32.ofInt (-1)))]) (List.forall_mem_cons.mpr ⟨(List.Mem.tail _ (List.Mem.tail _ (List.Mem.tail _ (List.Mem.head _)))), (List.forall_mem_cons.mpr ⟨(List.Mem.tail _ (List.Mem.tail _ (List.Mem.head _))), (List.forall_mem_cons.mpr ⟨(List.Mem.tail _ (List.Mem.head _)), (List.forall_mem_cons.mpr ⟨(List.Mem.head _), (fun q h => absurd h List.not_mem_nil)⟩)⟩)⟩)⟩) z
              ·
                exact absurd rfl g
            ·
              exact absurd rfl g
        | true =>
            rw [hb] at hs1
            replace hs1 : fS (Int32.ofNat e).toNatClampNeg = 1 := hs1
            have hA : Int32.ofNat (cnd s (dd + 1)) = Int32.ofNat (cnd s dd) + Int32.ofInt 1 := by rw [cnd_s he, hb, Int32.ofNat_add]; rfl
            have hF : frI s (dd + 1) = Int32.ofNat e := by rw [frI_s he, hb]; rfl
            rw [hA, hF] at z
            refine w_zald C qS (P2 _ _) tz (on_in he1 (by omega)) (d (by decide +kernel)) ?_
            rw [hs1]
            refine w_if_eq C (off := 7) (t := 38) (d (by decide +kernel)) (by decide) (fun g => ?_) (fun g => ?_)
            ·
              exact absurd g (by decide)
            ·
              clear g
              refine w_iconst C (n := 1) (d (by decide +kernel)) ?_
              refine w_goto C (off := 4) (t := 39) (d (by decide +kernel)) (by decide) ?_
              refine w_iadd C (d (by decide +kernel)) ?_
              refine w_istore_n C (i := 2) (lv' := [(2, .int ((Int32.ofNat (cnd s dd)) + (Int32.ofInt 1))), (0, .ref bt), (3, .int (frI s dd)), (4, .int (Int32.ofNat e))]) (d (by decide +kernel)) (by rw [eN]; decide) (fun _ h => h) ?_
              refine w_aload_n C (i := 0) (x := bt) (d (by decide +kernel)) (List.Mem.tail _ (List.Mem.head _)) ?_
              refine w_get C qt hc (P1 _ _) n37 l37 f37 (d (by decide +kernel)) ?_
              refine w_iload C (i := 4) (x := Int32.ofNat e) (d (by decide +kernel)) (List.Mem.tail _ (List.Mem.tail _ (List.Mem.tail _ (List.Mem.head _)))) ?_
              refine w_zald C qS (P2 _ _) tz (on_in he1 (by omega)) (d (by decide +kernel)) ?_
              rw [hs1]
              refine w_if_eq C (off := 8) (t := 56) (d (by decide +kernel)) (by decide) (fun g => ?_) (fun g => ?_)
              ·
                exact absurd g (by decide)
              ·
                refine w_iload C (i := 4) (x := Int32.ofNat e) (d (by decide +kernel)) (List.Mem.tail _ (List.Mem.tail _ (List.Mem.tail _ (List.Mem.head _)))) ?_
                refine w_goto C (off := 4) (t := 57) (d (by decide +kernel)) (by decide) ?_
                refine w_istore_n C (i := 3) (lv' := [(3, .int (Int32.ofNat e)), (2, .int ((Int32.ofNat (cnd s dd)) + (Int32.ofInt 1))), (0, .ref bt), (4, .int (Int32.ofNat e))]) (d (by decide +kernel)) (by rw [eN]; decide) (fun _ h => h) ?_
                refine w_iinc C (i := 4) (n := (-1)) (x := Int32.ofNat e) (lv' := [(4, .int (Int32.ofNat e + Int32.ofInt (-1))), (3, .int (Int32.ofNat e)), (2, .int ((Int32.ofNat (cnd s dd)) + (Int32.ofInt 1))), (0, .ref bt)]) (d (by decide +kernel)) (by rw [eN]; decide) (List.Mem.tail _ (List.Mem.tail _ (List.Mem.tail _ (List.Mem.head _)))) (fun _ h => by rw [show Int32.ofNat e + Int32.ofInt (-1) = Int32.ofNat e + Int32.ofInt (-1) from rfl]; exact h) ?_
                refine w_goto C (off := (-51)) (t := 10) (d (by decide +kernel)) (by decide) ?_
                exact WS_lv (lv := [(0, .ref bt), (2, .int (Int32.ofNat (cnd s dd) + Int32.ofInt 1)), (3, .int (Int32.ofNat e)), (4, .int (Int32.ofNat e + Int32.ofInt (-1)))]) (List.forall_mem_cons.mpr ⟨(List.Mem.tail _ (List.Mem.tail _ (List.Mem.tail _ (List.Mem.head _)))), (List.forall_mem_cons.mpr ⟨(List.Mem.tail _ (List.Mem.tail _ (List.Mem.head _))), (List.forall_mem_cons.mpr ⟨(List.Mem.tail _ (List.Mem.head _)), (List.forall_mem_cons.mpr ⟨(List.Mem.head _), (fun q h => absurd h List.not_mem_nil)⟩)⟩)⟩)⟩) z
  show WS k 0 [(0, .ref bt)] [] ws 0 0
  rw [← P7]
  refine w_iconst C (n := 0) (d (by decide +kernel)) ?_
  refine w_istore_n C (i := 1) (lv' := [(1, .int (Int32.ofInt 0)), (0, .ref bt)]) (d (by decide +kernel)) (by rw [eN]; decide) (fun _ h => h) ?_
  refine w_iconst C (n := 0) (d (by decide +kernel)) ?_
  refine w_istore_n C (i := 2) (lv' := [(2, .int (Int32.ofInt 0)), (1, .int (Int32.ofInt 0)), (0, .ref bt)]) (d (by decide +kernel)) (by rw [eN]; decide) (fun _ h => h) ?_
  refine w_iconst C (n := (-1)) (d (by decide +kernel)) ?_
  refine w_istore_n C (i := 3) (lv' := [(3, .int (Int32.ofInt (-1))), (2, .int (Int32.ofInt 0)), (1, .int (Int32.ofInt 0)), (0, .ref bt)]) (d (by decide +kernel)) (by rw [eN]; decide) (fun _ h => h) ?_
  refine w_bipush C (n := 127) (z := 127) (d (by decide +kernel)) (by decide) ?_
  refine w_istore C (i := 4) (lv' := [(4, .int 127), (3, .int (Int32.ofInt (-1))), (2, .int (Int32.ofInt 0)), (1, .int (Int32.ofInt 0)), (0, .ref bt)]) (d (by decide +kernel)) (by rw [eN]; decide) (fun _ h => h) ?_
  exact WS_lv (lv := [(0, .ref bt), (2, .int (Int32.ofInt 0)), (3, .int (Int32.ofInt (-1))), (4, .int 127)]) (List.forall_mem_cons.mpr ⟨(List.Mem.tail _ (List.Mem.tail _ (List.Mem.tail _ (List.Mem.tail _ (List.Mem.head _))))), (List.forall_mem_cons.mpr ⟨(List.Mem.tail _ (List.Mem.tail _ (List.Mem.head _))), (List.forall_mem_cons.mpr ⟨(List.Mem.tail _ (List.Mem.head _)), (List.forall_mem_cons.mpr ⟨(List.Mem.head _), (fun q h => absurd h List.not_mem_nil)⟩)⟩)⟩)⟩) (L1 128 0 rfl fM0 bM zM zM)
