/-! The model's in, bad and paint, walked by hand -/
theorem dnot {p q : Prop} [Decidable p] [Decidable q] (h : ¬ (p ∧ q)) : (decide p && decide q) = false := by
  by_cases h1 : p <;> by_cases h2 : q <;> simp_all
def inV (x lo hi : Int32) : Int32 := if lo ≤ x ∧ x ≤ hi then 1 else 0
theorem in_body {k : kx_T} {ws : va_W} {x lo hi : Int32} {K : mb_O → va_W → Prop} {mc ms : Nat} (C : kx_ok k) (e7 : kCc k = cX12_in) (e9 : (kMe k).sig.returnType = some .boolean) (q : kx_end k K mc ms) (h : K (.inl (some (.int (inV x lo hi)))) ws) : WS k 0 (lv_args 0 [.int x, .int lo, .int hi]) [] ws 0 0 := by
  have d : ∀ {pc : Nat} {q : Instr × Nat}, decode cX12_in pc = .ok q → decode (kCc k) pc = .ok q := fun h => by rw [e7]; exact h
  show WS k 0 [(0, .int x), (1, .int lo), (2, .int hi)] [] ws 0 0
  refine w_iload_n C (i := 0) (x := x) (d (by decide +kernel)) (List.Mem.head _) ?_
  refine w_iload_n C (i := 1) (x := lo) (d (by decide +kernel)) (List.Mem.tail _ (List.Mem.head _)) ?_
  refine w_icmp_lt C (off := 12) (t := 14) (d (by decide +kernel)) (by decide) (fun g => ?_) (fun g => ?_)
  ·
    refine w_iconst C (n := 0) (d (by decide +kernel)) ?_
    exact w_iret C q e9 (by decide) (d (by decide +kernel)) (Nat.zero_le _) (Nat.zero_le _) (by rw [show inV x lo hi = Int32.ofInt 0 from if_neg (fun z => absurd g (Int32.not_lt.mpr z.1))] at h; exact h)
  ·
    refine w_iload_n C (i := 0) (x := x) (d (by decide +kernel)) (List.Mem.head _) ?_
    refine w_iload_n C (i := 2) (x := hi) (d (by decide +kernel)) (List.Mem.tail _ (List.Mem.tail _ (List.Mem.head _))) ?_
    refine w_icmp_gt C (off := 7) (t := 14) (d (by decide +kernel)) (by decide) (fun g2 => ?_) (fun g2 => ?_)
    ·
      refine w_iconst C (n := 0) (d (by decide +kernel)) ?_
      exact w_iret C q e9 (by decide) (d (by decide +kernel)) (Nat.zero_le _) (Nat.zero_le _) (by rw [show inV x lo hi = Int32.ofInt 0 from if_neg (fun z => absurd g2 (Int32.not_lt.mpr z.2))] at h; exact h)
    ·
      refine w_iconst C (n := 1) (d (by decide +kernel)) ?_
      refine w_goto C (off := 4) (t := 15) (d (by decide +kernel)) (by decide) ?_
      exact w_iret C q e9 (by decide) (d (by decide +kernel)) (Nat.zero_le _) (Nat.zero_le _) (by rw [show inV x lo hi = Int32.ofInt 1 from if_pos ⟨Int32.not_lt.mp g, Int32.not_lt.mp g2⟩] at h; exact h)
theorem bad_body {k : kx_T} {Wd : Int32 → va_W} {qt bt N mc ms : Nat} {fsT : Int32 → List Value} {is what : Int32} {K : mb_O → va_W → Prop} {Cn : String} {T : u_T} {ty : Nat → FieldType}
    (C : kx_ok k) (e7 : kCc k = cX12_bad) (e9 : (kMe k).sig.returnType = some .boolean) (q : kx_end k K mc ms)
    (hc : cl_ok 12 N Cn T ty) (n0 : 0 < N) (l0 : Cond.fieldLink (kOwn k) 172 (T 0).1 (T 0).2.1 (T 0).2.2.1 ∈ gT) (t0 : ty 0 = .int) (tf : (T 0).2.2.2 = false)
    (P1 : ∀ t, (Wd t)[qt]? = some (bt, .inr (12, fsT t))) (F0 : ∀ t, (fsT t)[0]? = some (.int t)) (P3 : ∀ t t', (Wd t).set qt (bt, .inr (12, (fsT t).set 0 (.int t'))) = Wd t')
    (h : (is = 0 ∧ K (.inl (some (.int 0))) (Wd 0)) ∨ (is = 1 ∧ what ≠ 0 ∧ K (.inl (some (.int 1))) (Wd what))) : WS k 0 (lv_args 0 [.ref bt, .int is, .int what]) [] (Wd 0) 0 0 := by
  have d : ∀ {pc : Nat} {q : Instr × Nat}, decode cX12_bad pc = .ok q → decode (kCc k) pc = .ok q := fun h => by rw [e7]; exact h
  have hl : ∀ t, 0 < (fsT t).length := fun t => (List.getElem?_eq_some_iff.mp (F0 t)).1
  have L16 : ∀ t, ((t = 0 ∧ K (.inl (some (.int 0))) (Wd t)) ∨ (¬ t = 0 ∧ K (.inl (some (.int 1))) (Wd t))) → WS k 16 [(0, .ref bt), (1, .int is), (2, .int what)] [] (Wd t) 0 0 := by
    intro t ht
    refine w_aload_n C (i := 0) (x := bt) (d (by decide +kernel)) (List.Mem.head _) ?_
    refine w_get C qt hc (P1 _) n0 l0 (F0 _) (d (by decide +kernel)) ?_
    refine w_if_eq C (off := 7) (t := 27) (d (by decide +kernel)) (by decide) (fun g => ?_) (fun g => ?_)
    ·
      rcases ht with ht | ht
      ·
        refine w_iconst C (n := 0) (d (by decide +kernel)) ?_
        exact w_iret C q e9 (by decide) (d (by decide +kernel)) (Nat.zero_le _) (Nat.zero_le _) ht.2
      ·
        exact absurd g ht.1
    ·
      rcases ht with ht | ht
      ·
        exact absurd ht.1 g
      ·
        refine w_iconst C (n := 1) (d (by decide +kernel)) ?_
        refine w_goto C (off := 4) (t := 28) (d (by decide +kernel)) (by decide) ?_
        exact w_iret C q e9 (by decide) (d (by decide +kernel)) (Nat.zero_le _) (Nat.zero_le _) ht.2
  show WS k 0 [(0, .ref bt), (1, .int is), (2, .int what)] [] (Wd 0) 0 0
  refine w_iload_n C (i := 1) (x := is) (d (by decide +kernel)) (List.Mem.tail _ (List.Mem.head _)) ?_
  refine w_if_eq C (off := 15) (t := 16) (d (by decide +kernel)) (by decide) (fun g => ?_) (fun g => ?_)
  ·
    rcases h with h | h
    ·
      exact L16 0 (Or.inl ⟨rfl, h.2⟩)
    ·
      exact absurd g (by rw [h.1]; decide)
  ·
    rcases h with h | h
    ·
      exact absurd h.1 g
    ·
      refine w_aload_n C (i := 0) (x := bt) (d (by decide +kernel)) (List.Mem.head _) ?_
      refine w_get C qt hc (P1 _) n0 l0 (F0 _) (d (by decide +kernel)) ?_
      refine w_if_ne C (off := 8) (t := 16) (d (by decide +kernel)) (by decide) (fun g2 => ?_) (fun g2 => ?_)
      ·
        exact absurd rfl g2
      ·
        refine w_aload_n C (i := 0) (x := bt) (d (by decide +kernel)) (List.Mem.head _) ?_
        refine w_iload_n C (i := 2) (x := what) (d (by decide +kernel)) (List.Mem.tail _ (List.Mem.tail _ (List.Mem.head _))) ?_
        refine w_put C (f := 0) qt hc (P1 _) n0 l0 (by rw [t0]; rfl) (by rw [t0]; rfl) (hl _) (Or.inl tf) (d (by decide +kernel)) ?_
        rw [P3]
        exact L16 what (Or.inr ⟨h.2.1, h.2.2⟩)
theorem pm_body {k : kx_T} {Wd : Int32 → (Nat → Int32) → va_W} {qt qP bt aP N N2 mc ms A B mI mB : Nat} {ci : ClassId} {fsT : Int32 → List Value} {f0 : Nat → Int32} {th0 P : Int32} {K : mb_O → va_W → Prop} {Cn : String} {T T2 : u_T} {ty : Nat → FieldType} {rI rB : Room}
    (C : kx_ok k) (e7 : kCc k = cX12_paint) (eN : kN k = 6) (e9 : (kMe k).sig.returnType = some .int) (q : kx_end k K mc ms)
    (hc : cl_ok 12 N Cn T ty) (n0 : 0 < N) (n35 : 35 < N) (l0 : Cond.fieldLink (kOwn k) 172 (T 0).1 (T 0).2.1 (T 0).2.2.1 ∈ gT) (l35 : Cond.fieldLink (kOwn k) 70 (T 35).1 (T 35).2.1 (T 35).2.2.1 ∈ gT) (t0 : ty 0 = .int) (tf : (T 0).2.2.2 = false) (ti : (kTy k)[0]? = some (ci, .int))
    (hst : Cond.static yX12_in ∈ gT) (cbI : cb_ok k 209 yX12_in cX12_in mI (some .boolean) rI 3) (r1 : rI.cells = 0) (r2 : rI.slots = 0)
    (hMI : ∀ x lo hi ws, MB (kL k) (kS0 k) (kD k) yX12_in (.code yX12_in cX12_in mI (some .boolean)) rI [.int x, .int lo, .int hi] ws (fun o ws' => o = .inl (some (.int (inV x lo hi))) ∧ ws' = ws))
    (cbB : cb_ok k 229 yX12_bad cX12_bad mB (some .boolean) rB 2) (hi : Cond.instanceMethod yX12_bad ∈ gT) (hse : Cond.selects yX12_bad.cls yX12_bad yX12_bad ∈ gT) (hvc : vwCl[12]? = some (yX12_bad.cls, T2, N2)) (r3 : rB.cells = 0) (r4 : rB.slots = 0)
    (hMB : ∀ f is what, (is = 0 ∨ (is = 1 ∧ what ≠ 0)) → MB (kL k) (kS0 k) (kD k) yX12_bad (.code yX12_bad cX12_bad mB (some .boolean)) rB [.ref bt, .int is, .int what] (Wd 0 f) (fun o ws' => (is = 0 ∧ o = .inl (some (.int 0)) ∧ ws' = Wd 0 f) ∨ (is = 1 ∧ o = .inl (some (.int 1)) ∧ ws' = Wd what f)))
    (P1 : ∀ t f, (Wd t f)[qt]? = some (bt, .inr (12, fsT t))) (F0 : ∀ t, (fsT t)[0]? = some (.int t)) (F35 : ∀ t, (fsT t)[35]? = some (.ref aP)) (P2 : ∀ t f, (Wd t f)[qP]? = some (aP, .inl (ci, 128, .inl f)))
    (P3 : ∀ t f t', (Wd t f).set qt (bt, .inr (12, (fsT t).set 0 (.int t'))) = Wd t' f) (P4 : ∀ t f f', (Wd t f).set qP (aP, .inl (ci, 128, .inl f')) = Wd t f')
    (hA : A < 128) (hB : B < 128) (hP1 : -1 ≤ P.toInt) (hP2 : P.toInt ≤ 7) (hf : ∀ j, f0 j = 0)
    (hbad : ¬ pVal A B → K (.inl (some (.int 0))) (Wd 2 f0)) (hgoal : pVal A B → ∀ f, (∀ j, 128 ≤ j → f j = 0) → K (.inl (some (.int (Int32.ofNat (pN A B (decide (P = 0))))))) (Wd 0 f)) : WS k 0 (lv_args 0 [.ref bt, .int (Int32.ofNat A), .int (Int32.ofNat B), .int P]) [] (Wd th0 f0) 0 0 := by
  generalize hz : decide (P = 0) = zb at hgoal
  have d : ∀ {pc : Nat} {q : Instr × Nat}, decode cX12_paint pc = .ok q → decode (kCc k) pc = .ok q := fun h => by rw [e7]; exact h
  have hl : ∀ t, 0 < (fsT t).length := fun t => (List.getElem?_eq_some_iff.mp (F0 t)).1
  have hrI : 0 + rI.cells ≤ (kR k).cells ∧ 0 + rI.slots ≤ (kR k).slots := ⟨by rw [r1]; exact Nat.zero_le _, by rw [r2]; exact Nat.zero_le _⟩
  have hrB : 0 + rB.cells ≤ (kR k).cells ∧ 0 + rB.slots ≤ (kR k).slots := ⟨by rw [r3]; exact Nat.zero_le _, by rw [r4]; exact Nat.zero_le _⟩
  obtain ⟨a1, -, -, a4, a5⟩ := cq_ok hA
  obtain ⟨b1, -, -, b4, b5⟩ := cq_ok hB
  have m1 : (64 : Int32) * Int32.ofNat (A / 64) = Int32.ofNat (64 * (A / 64)) := by rw [Int32.ofNat_mul]; rfl
  have m2 : Int32.ofNat (64 * (A / 64)) + 64 = Int32.ofNat (64 * (A / 64) + 64) := by rw [Int32.ofNat_add]; rfl
  have inT : ∀ {x lo hi : Int32}, lo ≤ x → x ≤ hi → inV x lo hi = 1 := fun h1 h2 => if_pos ⟨h1, h2⟩
  have iA : inV (Int32.ofNat A) (Int32.ofInt 0) 127 = 1 := inT ((on_le (a := 0) (by omega) (by omega)).mpr (by omega)) ((on_le (b := 127) (by omega) (by omega)).mpr (by omega))
  have iB : inV (Int32.ofNat B) (Int32.ofInt 0) 127 = 1 := inT ((on_le (a := 0) (by omega) (by omega)).mpr (by omega)) ((on_le (b := 127) (by omega) (by omega)).mpr (by omega))
  have iP : inV P (Int32.ofInt (-1)) 7 = 1 := inT (Int32.le_iff_toInt_le.mpr hP1) (Int32.le_iff_toInt_le.mpr hP2)
  have L1 : pVal A B → ∀ r c, c + r = 64 * (A / 64) + 64 → 64 * (A / 64) ≤ c → ∀ f, (∀ j, c ≤ j → f j = 0) → (∀ j, 128 ≤ j → f j = 0) → WS k 114 [(0, .ref bt), (1, .int (Int32.ofNat A)), (2, .int (Int32.ofNat B)), (3, .int P), (4, .int (Int32.ofNat (bct (pM A B zb) c))), (5, .int (Int32.ofNat c))] [] (Wd 0 f) 0 0 := by
    intro hv r
    induction r with
    | zero =>
      intro c hc1 hc2 f h1 h2
      replace hc1 : c = 64 * (A / 64) + 64 := hc1
      refine w_iload C (i := 5) (x := Int32.ofNat c) (d (by decide +kernel)) (List.Mem.tail _ (List.Mem.tail _ (List.Mem.tail _ (List.Mem.tail _ (List.Mem.tail _ (List.Mem.head _)))))) ?_
      refine w_bipush C (n := 64) (z := 64) (d (by decide +kernel)) (by decide) ?_
      refine w_iload_n C (i := 1) (x := Int32.ofNat A) (d (by decide +kernel)) (List.Mem.tail _ (List.Mem.head _)) ?_
      refine w_bipush C (n := 64) (z := 64) (d (by decide +kernel)) (by decide) ?_
      refine w_idiv C (d (by decide +kernel)) (by decide) ?_
      rw [a1]
      refine w_imul C (d (by decide +kernel)) ?_
      rw [m1]
      refine w_bipush C (n := 64) (z := 64) (d (by decide +kernel)) (by decide) ?_
      refine w_iadd C (d (by decide +kernel)) ?_
      rw [m2]
      refine w_icmp_ge C (off := 88) (t := 214) (d (by decide +kernel)) (by decide) (fun e => ?_) (fun e => ?_)
      ·
        refine w_iload C (i := 4) (x := Int32.ofNat (bct (pM A B zb) c)) (d (by decide +kernel)) (List.Mem.tail _ (List.Mem.tail _ (List.Mem.tail _ (List.Mem.tail _ (List.Mem.head _))))) ?_
        rw [hc1, pM_end hA]
        exact w_iret C q e9 rfl (d (by decide +kernel)) (Nat.zero_le _) (Nat.zero_le _) (hgoal hv _ h2)
      ·
        exact absurd ((on_le (by omega) (by omega)).mpr (by omega)) e
    | succ r ih =>
      intro c hc1 hc2 f h1 h2
      have hc3 : c < 128 := by omega
      obtain ⟨-, -, -, c4, c5⟩ := cq_ok hc3
      have hs : bct (pM A B zb) (c + 1) = bct (pM A B zb) c + (bif pM A B zb c then 1 else 0) := rfl
      have hp : pM A B zb c = ((decide (A % 8 ≤ c % 8) && decide (c % 8 ≤ B % 8)) && (decide (A / 8 % 8 ≤ c / 8 % 8) && decide (c / 8 % 8 ≤ B / 8 % 8)) && !zb) := by unfold pM; rw [decide_eq_true hc2, decide_eq_true (show c < 64 * (A / 64) + 64 by omega)]; simp
      have skip : pM A B zb c = false → WS k 208 [(0, .ref bt), (1, .int (Int32.ofNat A)), (2, .int (Int32.ofNat B)), (3, .int P), (4, .int (Int32.ofNat (bct (pM A B zb) c))), (5, .int (Int32.ofNat c))] [] (Wd 0 f) 0 0 := fun hq => by
        rw [hq] at hs
        replace hs : bct (pM A B zb) (c + 1) = bct (pM A B zb) c := hs
        refine w_iinc C (i := 5) (n := 1) (x := Int32.ofNat c) (lv' := [(5, .int (Int32.ofNat (c + 1))), (0, .ref bt), (1, .int (Int32.ofNat A)), (2, .int (Int32.ofNat B)), (3, .int P), (4, .int (Int32.ofNat (bct (pM A B zb) c)))]) (d (by decide +kernel)) (by rw [eN]; decide) (List.Mem.tail _ (List.Mem.tail _ (List.Mem.tail _ (List.Mem.tail _ (List.Mem.tail _ (List.Mem.head _)))))) (fun _ h => by rw [on_up]; exact h) ?_
        refine w_goto C (off := (-97)) (t := 114) (d (by decide +kernel)) (by decide) ?_
        have z := ih (c + 1) (by omega) (by omega) f (fun j hj => h1 j (by omega)) h2
        rw [hs] at z
        exact WS_lv (lv := [(0, .ref bt), (1, .int (Int32.ofNat A)), (2, .int (Int32.ofNat B)), (3, .int P), (4, .int (Int32.ofNat (bct (pM A B zb) c))), (5, .int (Int32.ofNat (c + 1)))]) (List.forall_mem_cons.mpr ⟨(List.Mem.tail _ (List.Mem.head _)), (List.forall_mem_cons.mpr ⟨(List.Mem.tail _ (List.Mem.tail _ (List.Mem.head _))), (List.forall_mem_cons.mpr ⟨(List.Mem.tail _ (List.Mem.tail _ (List.Mem.tail _ (List.Mem.head _)))), (List.forall_mem_cons.mpr ⟨(List.Mem.tail _ (List.Mem.tail _ (List.Mem.tail _ (List.Mem.tail _ (List.Mem.head _))))), (List.forall_mem_cons.mpr ⟨(List.Mem.tail _ (List.Mem.tail _ (List.Mem.tail _ (List.Mem.tail _ (List.Mem.tail _ (List.Mem.head _)))))), (List.forall_mem_cons.mpr ⟨(List.Mem.head _), (fun q h => absurd h List.not_mem_nil)⟩)⟩)⟩)⟩)⟩)⟩) z
      refine w_iload C (i := 5) (x := Int32.ofNat c) (d (by decide +kernel)) (List.Mem.tail _ (List.Mem.tail _ (List.Mem.tail _ (List.Mem.tail _ (List.Mem.tail _ (List.Mem.head _)))))) ?_
      refine w_bipush C (n := 64) (z := 64) (d (by decide +kernel)) (by decide) ?_
      refine w_iload_n C (i := 1) (x := Int32.ofNat A) (d (by decide +kernel)) (List.Mem.tail _ (List.Mem.head _)) ?_
      refine w_bipush C (n := 64) (z := 64) (d (by decide +kernel)) (by decide) ?_
      refine w_idiv C (d (by decide +kernel)) (by decide) ?_
      rw [a1]
      refine w_imul C (d (by decide +kernel)) ?_
      rw [m1]
      refine w_bipush C (n := 64) (z := 64) (d (by decide +kernel)) (by decide) ?_
      refine w_iadd C (d (by decide +kernel)) ?_
      rw [m2]
      refine w_icmp_ge C (off := 88) (t := 214) (d (by decide +kernel)) (by decide) (fun e => ?_) (fun e => ?_)
      ·
        exact absurd ((on_le (by omega) (by omega)).mp e) (by omega)
      ·
        clear e
        refine w_iload C (i := 5) (x := Int32.ofNat c) (d (by decide +kernel)) (List.Mem.tail _ (List.Mem.tail _ (List.Mem.tail _ (List.Mem.tail _ (List.Mem.tail _ (List.Mem.head _)))))) ?_
        refine w_bipush C (n := 8) (z := 8) (d (by decide +kernel)) (by decide) ?_
        refine w_irem C (d (by decide +kernel)) (by decide) ?_
        rw [c4]
        refine w_iload_n C (i := 1) (x := Int32.ofNat A) (d (by decide +kernel)) (List.Mem.tail _ (List.Mem.head _)) ?_
        refine w_bipush C (n := 8) (z := 8) (d (by decide +kernel)) (by decide) ?_
        refine w_irem C (d (by decide +kernel)) (by decide) ?_
        rw [a4]
        refine w_iload_n C (i := 2) (x := Int32.ofNat B) (d (by decide +kernel)) (List.Mem.tail _ (List.Mem.tail _ (List.Mem.head _))) ?_
        refine w_bipush C (n := 8) (z := 8) (d (by decide +kernel)) (by decide) ?_
        refine w_irem C (d (by decide +kernel)) (by decide) ?_
        rw [b4]
        refine w_callS (As := [.int (Int32.ofNat (c % 8)), .int (Int32.ofNat (A % 8)), .int (Int32.ofNat (B % 8))]) C cbI hst (hMI _ _ _ _) rfl (Nat.le_of_ble_eq_true rfl) hrI (d (by decide +kernel)) (fun v ws' hK => ?_) (fun E ws' hK => by cases hK.1)
        obtain ⟨hv, rfl⟩ := hK
        cases hv
        rw [r1, r2]
        show WS k 145 [(0, .ref bt), (1, .int (Int32.ofNat A)), (2, .int (Int32.ofNat B)), (3, .int P), (4, .int (Int32.ofNat (bct (pM A B zb) c))), (5, .int (Int32.ofNat c))] [.int (inV (Int32.ofNat (c % 8)) (Int32.ofNat (A % 8)) (Int32.ofNat (B % 8)))] (Wd 0 f) 0 0
        by_cases hx : A % 8 ≤ c % 8 ∧ c % 8 ≤ B % 8
        ·
          rw [inT ((on_le (by omega) (by omega)).mpr hx.1) ((on_le (by omega) (by omega)).mpr hx.2)]
          refine w_if_eq C (off := 63) (t := 208) (d (by decide +kernel)) (by decide) (fun e => ?_) (fun e => ?_)
          ·
            exact absurd e (by decide)
          ·
            clear e
            refine w_iload C (i := 5) (x := Int32.ofNat c) (d (by decide +kernel)) (List.Mem.tail _ (List.Mem.tail _ (List.Mem.tail _ (List.Mem.tail _ (List.Mem.tail _ (List.Mem.head _)))))) ?_
            refine w_bipush C (n := 8) (z := 8) (d (by decide +kernel)) (by decide) ?_
            refine w_idiv C (d (by decide +kernel)) (by decide) ?_
            refine w_bipush C (n := 8) (z := 8) (d (by decide +kernel)) (by decide) ?_
            refine w_irem C (d (by decide +kernel)) (by decide) ?_
            rw [c5]
            refine w_iload_n C (i := 1) (x := Int32.ofNat A) (d (by decide +kernel)) (List.Mem.tail _ (List.Mem.head _)) ?_
            refine w_bipush C (n := 8) (z := 8) (d (by decide +kernel)) (by decide) ?_
            refine w_idiv C (d (by decide +kernel)) (by decide) ?_
            refine w_bipush C (n := 8) (z := 8) (d (by decide +kernel)) (by decide) ?_
            refine w_irem C (d (by decide +kernel)) (by decide) ?_
            rw [a5]
            refine w_iload_n C (i := 2) (x := Int32.ofNat B) (d (by decide +kernel)) (List.Mem.tail _ (List.Mem.tail _ (List.Mem.head _))) ?_
            refine w_bipush C (n := 8) (z := 8) (d (by decide +kernel)) (by decide) ?_
            refine w_idiv C (d (by decide +kernel)) (by decide) ?_
            refine w_bipush C (n := 8) (z := 8) (d (by decide +kernel)) (by decide) ?_
            refine w_irem C (d (by decide +kernel)) (by decide) ?_
            rw [b5]
            refine w_callS (As := [.int (Int32.ofNat (c / 8 % 8)), .int (Int32.ofNat (A / 8 % 8)), .int (Int32.ofNat (B / 8 % 8))]) C cbI hst (hMI _ _ _ _) rfl (Nat.le_of_ble_eq_true rfl) hrI (d (by decide +kernel)) (fun v ws' hK => ?_) (fun E ws' hK => by cases hK.1)
            obtain ⟨hv, rfl⟩ := hK
            cases hv
            rw [r1, r2]
            show WS k 173 [(0, .ref bt), (1, .int (Int32.ofNat A)), (2, .int (Int32.ofNat B)), (3, .int P), (4, .int (Int32.ofNat (bct (pM A B zb) c))), (5, .int (Int32.ofNat c))] [.int (inV (Int32.ofNat (c / 8 % 8)) (Int32.ofNat (A / 8 % 8)) (Int32.ofNat (B / 8 % 8)))] (Wd 0 f) 0 0
            by_cases hy : A / 8 % 8 ≤ c / 8 % 8 ∧ c / 8 % 8 ≤ B / 8 % 8
            ·
              rw [inT ((on_le (by omega) (by omega)).mpr hy.1) ((on_le (by omega) (by omega)).mpr hy.2)]
              refine w_if_ne C (off := 6) (t := 179) (d (by decide +kernel)) (by decide) (fun e => ?_) (fun e => ?_)
              ·
                clear e
                rw [decide_eq_true hx.1, decide_eq_true hx.2, decide_eq_true hy.1, decide_eq_true hy.2] at hp
                replace hp : pM A B zb c = !zb := hp
                have hf1 : f (Int32.ofNat c).toNatClampNeg = 0 := by rw [on_cl (by omega)]; exact h1 c (Nat.le_refl _)
                have z1 : ∀ j, c + 1 ≤ j → upd f c P j = 0 := fun j hj => by unfold upd; rw [if_neg (by omega)]; exact h1 j (by omega)
                have z2 : ∀ j, 128 ≤ j → upd f c P j = 0 := fun j hj => by unfold upd; rw [if_neg (by omega)]; exact h2 j hj
                have z := ih (c + 1) (by omega) (by omega) (upd f c P) z1 z2
                refine w_iload C (i := 4) (x := Int32.ofNat (bct (pM A B zb) c)) (d (by decide +kernel)) (List.Mem.tail _ (List.Mem.tail _ (List.Mem.tail _ (List.Mem.tail _ (List.Mem.head _))))) ?_
                refine w_aload_n C (i := 0) (x := bt) (d (by decide +kernel)) (List.Mem.head _) ?_
                refine w_get C qt hc (P1 _ _) n35 l35 (F35 _) (d (by decide +kernel)) ?_
                refine w_iload C (i := 5) (x := Int32.ofNat c) (d (by decide +kernel)) (List.Mem.tail _ (List.Mem.tail _ (List.Mem.tail _ (List.Mem.tail _ (List.Mem.tail _ (List.Mem.head _)))))) ?_
                refine w_iald C qP (P2 _ _) ti (on_in hc3 (by omega)) (d (by decide +kernel)) ?_
                rw [hf1]
                refine w_iload_n C (i := 3) (x := P) (d (by decide +kernel)) (List.Mem.tail _ (List.Mem.tail _ (List.Mem.tail _ (List.Mem.head _)))) ?_
                refine w_icmp_ne C (off := 7) (t := 196) (d (by decide +kernel)) (by decide) (fun e5 => ?_) (fun e5 => ?_)
                ·
                  have hq : pM A B zb c = true := by rw [hp, ← hz, decide_eq_false (fun z => e5 z.symm)]; rfl
                  rw [hs, hq] at z
                  replace z : WS k 114 [(0, .ref bt), (1, .int (Int32.ofNat A)), (2, .int (Int32.ofNat B)), (3, .int P), (4, .int (Int32.ofNat (bct (pM A B zb) c + 1))), (5, .int (Int32.ofNat (c + 1)))] [] (Wd 0 (upd f c P)) 0 0 := z
                  refine w_iconst C (n := 1) (d (by decide +kernel)) ?_
                  refine w_iadd C (d (by decide +kernel)) ?_
                  rw [show Int32.ofNat (bct (pM A B zb) c) + Int32.ofInt 1 = Int32.ofNat (bct (pM A B zb) c + 1) by rw [Int32.ofNat_add]; rfl]
                  refine w_istore C (i := 4) (lv' := [(4, .int (Int32.ofNat (bct (pM A B zb) c + 1))), (0, .ref bt), (1, .int (Int32.ofNat A)), (2, .int (Int32.ofNat B)), (3, .int P), (5, .int (Int32.ofNat c))]) (d (by decide +kernel)) (by rw [eN]; decide) (fun _ h => h) ?_
                  refine w_aload_n C (i := 0) (x := bt) (d (by decide +kernel)) (List.Mem.tail _ (List.Mem.head _)) ?_
                  refine w_get C qt hc (P1 _ _) n35 l35 (F35 _) (d (by decide +kernel)) ?_
                  refine w_iload C (i := 5) (x := Int32.ofNat c) (d (by decide +kernel)) (List.Mem.tail _ (List.Mem.tail _ (List.Mem.tail _ (List.Mem.tail _ (List.Mem.tail _ (List.Mem.head _)))))) ?_
                  refine w_iload_n C (i := 3) (x := P) (d (by decide +kernel)) (List.Mem.tail _ (List.Mem.tail _ (List.Mem.tail _ (List.Mem.tail _ (List.Mem.head _))))) ?_
                  refine w_iast C qP (P2 _ _) ti (on_in hc3 (by omega)) (d (by decide +kernel)) ?_
                  rw [P4, on_cl (by omega)]
                  refine w_iinc C (i := 5) (n := 1) (x := Int32.ofNat c) (lv' := [(5, .int (Int32.ofNat (c + 1))), (4, .int (Int32.ofNat (bct (pM A B zb) c + 1))), (0, .ref bt), (1, .int (Int32.ofNat A)), (2, .int (Int32.ofNat B)), (3, .int P)]) (d (by decide +kernel)) (by rw [eN]; decide) (List.Mem.tail _ (List.Mem.tail _ (List.Mem.tail _ (List.Mem.tail _ (List.Mem.tail _ (List.Mem.head _)))))) (fun _ h => by rw [on_up]; exact h) ?_
                  refine w_goto C (off := (-97)) (t := 114) (d (by decide +kernel)) (by decide) ?_
                  exact WS_lv (lv := [(0, .ref bt), (1, .int (Int32.ofNat A)), (2, .int (Int32.ofNat B)), (3, .int P), (4, .int (Int32.ofNat (bct (pM A B zb) c + 1))), (5, .int (Int32.ofNat (c + 1)))]) (List.forall_mem_cons.mpr ⟨(List.Mem.tail _ (List.Mem.tail _ (List.Mem.head _))), (List.forall_mem_cons.mpr ⟨(List.Mem.tail _ (List.Mem.tail _ (List.Mem.tail _ (List.Mem.head _)))), (List.forall_mem_cons.mpr ⟨(List.Mem.tail _ (List.Mem.tail _ (List.Mem.tail _ (List.Mem.tail _ (List.Mem.head _))))), (List.forall_mem_cons.mpr ⟨(List.Mem.tail _ (List.Mem.tail _ (List.Mem.tail _ (List.Mem.tail _ (List.Mem.tail _ (List.Mem.head _)))))), (List.forall_mem_cons.mpr ⟨(List.Mem.tail _ (List.Mem.head _)), (List.forall_mem_cons.mpr ⟨(List.Mem.head _), (fun q h => absurd h List.not_mem_nil)⟩)⟩)⟩)⟩)⟩)⟩) z
                ·
                  have hq : pM A B zb c = false := by rw [hp, ← hz, decide_eq_true e5.symm]; rfl
                  rw [hs, hq] at z
                  replace z : WS k 114 [(0, .ref bt), (1, .int (Int32.ofNat A)), (2, .int (Int32.ofNat B)), (3, .int P), (4, .int (Int32.ofNat (bct (pM A B zb) c + 0))), (5, .int (Int32.ofNat (c + 1)))] [] (Wd 0 (upd f c P)) 0 0 := z
                  refine w_iconst C (n := 0) (d (by decide +kernel)) ?_
                  refine w_goto C (off := 4) (t := 197) (d (by decide +kernel)) (by decide) ?_
                  refine w_iadd C (d (by decide +kernel)) ?_
                  rw [show Int32.ofNat (bct (pM A B zb) c) + Int32.ofInt 0 = Int32.ofNat (bct (pM A B zb) c + 0) by rw [Int32.ofNat_add]; rfl]
                  refine w_istore C (i := 4) (lv' := [(4, .int (Int32.ofNat (bct (pM A B zb) c + 0))), (0, .ref bt), (1, .int (Int32.ofNat A)), (2, .int (Int32.ofNat B)), (3, .int P), (5, .int (Int32.ofNat c))]) (d (by decide +kernel)) (by rw [eN]; decide) (fun _ h => h) ?_
                  refine w_aload_n C (i := 0) (x := bt) (d (by decide +kernel)) (List.Mem.tail _ (List.Mem.head _)) ?_
                  refine w_get C qt hc (P1 _ _) n35 l35 (F35 _) (d (by decide +kernel)) ?_
                  refine w_iload C (i := 5) (x := Int32.ofNat c) (d (by decide +kernel)) (List.Mem.tail _ (List.Mem.tail _ (List.Mem.tail _ (List.Mem.tail _ (List.Mem.tail _ (List.Mem.head _)))))) ?_
                  refine w_iload_n C (i := 3) (x := P) (d (by decide +kernel)) (List.Mem.tail _ (List.Mem.tail _ (List.Mem.tail _ (List.Mem.tail _ (List.Mem.head _))))) ?_
                  refine w_iast C qP (P2 _ _) ti (on_in hc3 (by omega)) (d (by decide +kernel)) ?_
                  rw [P4, on_cl (by omega)]
                  refine w_iinc C (i := 5) (n := 1) (x := Int32.ofNat c) (lv' := [(5, .int (Int32.ofNat (c + 1))), (4, .int (Int32.ofNat (bct (pM A B zb) c + 0))), (0, .ref bt), (1, .int (Int32.ofNat A)), (2, .int (Int32.ofNat B)), (3, .int P)]) (d (by decide +kernel)) (by rw [eN]; decide) (List.Mem.tail _ (List.Mem.tail _ (List.Mem.tail _ (List.Mem.tail _ (List.Mem.tail _ (List.Mem.head _)))))) (fun _ h => by rw [on_up]; exact h) ?_
                  refine w_goto C (off := (-97)) (t := 114) (d (by decide +kernel)) (by decide) ?_
                  exact WS_lv (lv := [(0, .ref bt), (1, .int (Int32.ofNat A)), (2, .int (Int32.ofNat B)), (3, .int P), (4, .int (Int32.ofNat (bct (pM A B zb) c + 0))), (5, .int (Int32.ofNat (c + 1)))]) (List.forall_mem_cons.mpr ⟨(List.Mem.tail _ (List.Mem.tail _ (List.Mem.head _))), (List.forall_mem_cons.mpr ⟨(List.Mem.tail _ (List.Mem.tail _ (List.Mem.tail _ (List.Mem.head _)))), (List.forall_mem_cons.mpr ⟨(List.Mem.tail _ (List.Mem.tail _ (List.Mem.tail _ (List.Mem.tail _ (List.Mem.head _))))), (List.forall_mem_cons.mpr ⟨(List.Mem.tail _ (List.Mem.tail _ (List.Mem.tail _ (List.Mem.tail _ (List.Mem.tail _ (List.Mem.head _)))))), (List.forall_mem_cons.mpr ⟨(List.Mem.tail _ (List.Mem.head _)), (List.forall_mem_cons.mpr ⟨(List.Mem.head _), (fun q h => absurd h List.not_mem_nil)⟩)⟩)⟩)⟩)⟩)⟩) z
              ·
                exact absurd e (by decide)
            ·
              rw [show inV (Int32.ofNat (c / 8 % 8)) (Int32.ofNat (A / 8 % 8)) (Int32.ofNat (B / 8 % 8)) = 0 from if_neg (fun z => hy ⟨(on_le (by omega) (by omega)).mp z.1, (on_le (by omega) (by omega)).mp z.2⟩)]
              refine w_if_ne C (off := 6) (t := 179) (d (by decide +kernel)) (by decide) (fun e => ?_) (fun e => ?_)
              ·
                exact absurd rfl e
              ·
                refine w_goto C (off := 32) (t := 208) (d (by decide +kernel)) (by decide) ?_
                exact WS_lv (lv := [(0, .ref bt), (1, .int (Int32.ofNat A)), (2, .int (Int32.ofNat B)), (3, .int P), (4, .int (Int32.ofNat (bct (pM A B zb) c))), (5, .int (Int32.ofNat c))]) (List.forall_mem_cons.mpr ⟨(List.Mem.head _), (List.forall_mem_cons.mpr ⟨(List.Mem.tail _ (List.Mem.head _)), (List.forall_mem_cons.mpr ⟨(List.Mem.tail _ (List.Mem.tail _ (List.Mem.head _))), (List.forall_mem_cons.mpr ⟨(List.Mem.tail _ (List.Mem.tail _ (List.Mem.tail _ (List.Mem.head _)))), (List.forall_mem_cons.mpr ⟨(List.Mem.tail _ (List.Mem.tail _ (List.Mem.tail _ (List.Mem.tail _ (List.Mem.head _))))), (List.forall_mem_cons.mpr ⟨(List.Mem.tail _ (List.Mem.tail _ (List.Mem.tail _ (List.Mem.tail _ (List.Mem.tail _ (List.Mem.head _)))))), (fun q h => absurd h List.not_mem_nil)⟩)⟩)⟩)⟩)⟩)⟩) (skip (by rw [hp, dnot hy, Bool.and_false]; rfl))
        ·
          rw [show inV (Int32.ofNat (c % 8)) (Int32.ofNat (A % 8)) (Int32.ofNat (B % 8)) = 0 from if_neg (fun z => hx ⟨(on_le (by omega) (by omega)).mp z.1, (on_le (by omega) (by omega)).mp z.2⟩)]
          refine w_if_eq C (off := 63) (t := 208) (d (by decide +kernel)) (by decide) (fun e => ?_) (fun e => ?_)
          ·
            exact WS_lv (lv := [(0, .ref bt), (1, .int (Int32.ofNat A)), (2, .int (Int32.ofNat B)), (3, .int P), (4, .int (Int32.ofNat (bct (pM A B zb) c))), (5, .int (Int32.ofNat c))]) (List.forall_mem_cons.mpr ⟨(List.Mem.head _), (List.forall_mem_cons.mpr ⟨(List.Mem.tail _ (List.Mem.head _)), (List.forall_mem_cons.mpr ⟨(List.Mem.tail _ (List.Mem.tail _ (List.Mem.head _))), (List.forall_mem_cons.mpr ⟨(List.Mem.tail _ (List.Mem.tail _ (List.Mem.tail _ (List.Mem.head _)))), (List.forall_mem_cons.mpr ⟨(List.Mem.tail _ (List.Mem.tail _ (List.Mem.tail _ (List.Mem.tail _ (List.Mem.head _))))), (List.forall_mem_cons.mpr ⟨(List.Mem.tail _ (List.Mem.tail _ (List.Mem.tail _ (List.Mem.tail _ (List.Mem.tail _ (List.Mem.head _)))))), (fun q h => absurd h List.not_mem_nil)⟩)⟩)⟩)⟩)⟩)⟩) (skip (by rw [hp, dnot hx]; rfl))
          ·
            exact absurd rfl e
  have L88 : ¬ pVal A B → WS k 88 [(0, .ref bt), (1, .int (Int32.ofNat A)), (2, .int (Int32.ofNat B)), (3, .int P)] [.ref bt] (Wd 0 f0) 0 0 := by
    intro hv
    refine w_iconst C (n := 1) (d (by decide +kernel)) ?_
    refine w_goto C (off := 4) (t := 93) (d (by decide +kernel)) (by decide) ?_
    refine w_iconst C (n := 2) (d (by decide +kernel)) ?_
    refine w_callV (As := [.int (Int32.ofInt 1), .int (Int32.ofInt 2)]) (st := []) (q0 := qt) C cbB hi hse (hMB _ _ _ (Or.inr ⟨rfl, by decide⟩)) (P1 _ _) hvc rfl (by decide) hrB (d (by decide +kernel)) (fun v ws' hK => ?_) (fun E ws' hK => by rcases hK with hK | hK <;> cases hK.2.1)
    have hK : v = some (.int 1) ∧ ws' = Wd (Int32.ofInt 2) f0 := by
      rcases hK with hK | hK
      · exact absurd hK.1 (by decide)
      · exact ⟨by have := hK.2.1; cases this; rfl, hK.2.2⟩
    obtain ⟨rfl, rfl⟩ := hK
    rw [r3, r4]
    show WS k 97 [(0, .ref bt), (1, .int (Int32.ofNat A)), (2, .int (Int32.ofNat B)), (3, .int P)] [.int 1] (Wd (Int32.ofInt 2) f0) 0 0
    refine w_if_eq C (off := 5) (t := 102) (d (by decide +kernel)) (by decide) (fun e => ?_) (fun e => ?_)
    ·
      exact absurd e (by decide)
    ·
      refine w_iconst C (n := 0) (d (by decide +kernel)) ?_
      exact w_iret C q e9 rfl (d (by decide +kernel)) (Nat.zero_le _) (Nat.zero_le _) (hbad hv)
  have L92 : pVal A B → WS k 92 [(0, .ref bt), (1, .int (Int32.ofNat A)), (2, .int (Int32.ofNat B)), (3, .int P)] [.ref bt] (Wd 0 f0) 0 0 := by
    intro hv
    refine w_iconst C (n := 0) (d (by decide +kernel)) ?_
    refine w_iconst C (n := 2) (d (by decide +kernel)) ?_
    refine w_callV (As := [.int (Int32.ofInt 0), .int (Int32.ofInt 2)]) (st := []) (q0 := qt) C cbB hi hse (hMB _ _ _ (Or.inl rfl)) (P1 _ _) hvc rfl (by decide) hrB (d (by decide +kernel)) (fun v ws' hK => ?_) (fun E ws' hK => by rcases hK with hK | hK <;> cases hK.2.1)
    have hK : v = some (.int 0) ∧ ws' = Wd 0 f0 := by
      rcases hK with hK | hK
      · exact ⟨by have := hK.2.1; cases this; rfl, hK.2.2⟩
      · exact absurd hK.1 (by decide)
    obtain ⟨rfl, rfl⟩ := hK
    rw [r3, r4]
    show WS k 97 [(0, .ref bt), (1, .int (Int32.ofNat A)), (2, .int (Int32.ofNat B)), (3, .int P)] [.int 0] (Wd 0 f0) 0 0
    refine w_if_eq C (off := 5) (t := 102) (d (by decide +kernel)) (by decide) (fun e => ?_) (fun e => ?_)
    ·
      refine w_iconst C (n := 0) (d (by decide +kernel)) ?_
      refine w_istore C (i := 4) (lv' := [(4, .int (Int32.ofInt 0)), (0, .ref bt), (1, .int (Int32.ofNat A)), (2, .int (Int32.ofNat B)), (3, .int P)]) (d (by decide +kernel)) (by rw [eN]; decide) (fun _ h => h) ?_
      refine w_bipush C (n := 64) (z := 64) (d (by decide +kernel)) (by decide) ?_
      refine w_iload_n C (i := 1) (x := Int32.ofNat A) (d (by decide +kernel)) (List.Mem.tail _ (List.Mem.tail _ (List.Mem.head _))) ?_
      refine w_bipush C (n := 64) (z := 64) (d (by decide +kernel)) (by decide) ?_
      refine w_idiv C (d (by decide +kernel)) (by decide) ?_
      rw [a1]
      refine w_imul C (d (by decide +kernel)) ?_
      rw [m1]
      refine w_istore C (i := 5) (lv' := [(5, .int (Int32.ofNat (64 * (A / 64)))), (4, .int (Int32.ofInt 0)), (0, .ref bt), (1, .int (Int32.ofNat A)), (2, .int (Int32.ofNat B)), (3, .int P)]) (d (by decide +kernel)) (by rw [eN]; decide) (fun _ h => h) ?_
      have z := L1 hv 64 (64 * (A / 64)) rfl (Nat.le_refl _) f0 (fun j _ => hf j) (fun j _ => hf j)
      rw [pM_start] at z
      exact WS_lv (lv := [(0, .ref bt), (1, .int (Int32.ofNat A)), (2, .int (Int32.ofNat B)), (3, .int P), (4, .int (Int32.ofInt 0)), (5, .int (Int32.ofNat (64 * (A / 64))))]) (List.forall_mem_cons.mpr ⟨(List.Mem.tail _ (List.Mem.tail _ (List.Mem.head _))), (List.forall_mem_cons.mpr ⟨(List.Mem.tail _ (List.Mem.tail _ (List.Mem.tail _ (List.Mem.head _)))), (List.forall_mem_cons.mpr ⟨(List.Mem.tail _ (List.Mem.tail _ (List.Mem.tail _ (List.Mem.tail _ (List.Mem.head _))))), (List.forall_mem_cons.mpr ⟨(List.Mem.tail _ (List.Mem.tail _ (List.Mem.tail _ (List.Mem.tail _ (List.Mem.tail _ (List.Mem.head _)))))), (List.forall_mem_cons.mpr ⟨(List.Mem.tail _ (List.Mem.head _)), (List.forall_mem_cons.mpr ⟨(List.Mem.head _), (fun q h => absurd h List.not_mem_nil)⟩)⟩)⟩)⟩)⟩)⟩) z
    ·
      exact absurd rfl e
  show WS k 0 [(0, .ref bt), (1, .int (Int32.ofNat A)), (2, .int (Int32.ofNat B)), (3, .int P)] [] (Wd th0 f0) 0 0
  refine w_aload_n C (i := 0) (x := bt) (d (by decide +kernel)) (List.Mem.head _) ?_
  refine w_iconst C (n := 0) (d (by decide +kernel)) ?_
  refine w_put C (f := 0) qt hc (P1 _ _) n0 l0 (by rw [t0]; rfl) (by rw [t0]; rfl) (hl _) (Or.inl tf) (d (by decide +kernel)) ?_
  rw [P3]
  show WS k 5 [(0, .ref bt), (1, .int (Int32.ofNat A)), (2, .int (Int32.ofNat B)), (3, .int P)] [] (Wd 0 f0) 0 0
  refine w_aload_n C (i := 0) (x := bt) (d (by decide +kernel)) (List.Mem.head _) ?_
  refine w_iload_n C (i := 1) (x := Int32.ofNat A) (d (by decide +kernel)) (List.Mem.tail _ (List.Mem.head _)) ?_
  refine w_iconst C (n := 0) (d (by decide +kernel)) ?_
  refine w_bipush C (n := 127) (z := 127) (d (by decide +kernel)) (by decide) ?_
  refine w_callS (As := [.int (Int32.ofNat A), .int (Int32.ofInt 0), .int 127]) C cbI hst (hMI _ _ _ _) rfl (Nat.le_of_ble_eq_true rfl) hrI (d (by decide +kernel)) (fun v ws' hK => ?_) (fun E ws' hK => by cases hK.1)
  obtain ⟨hv, rfl⟩ := hK
  cases hv
  rw [r1, r2]
  show WS k 13 [(0, .ref bt), (1, .int (Int32.ofNat A)), (2, .int (Int32.ofNat B)), (3, .int P)] [.int (inV (Int32.ofNat A) (Int32.ofInt 0) 127), .ref bt] (Wd 0 f0) 0 0
  rw [iA]
  refine w_if_eq C (off := 13) (t := 26) (d (by decide +kernel)) (by decide) (fun e => ?_) (fun e => ?_)
  ·
    exact absurd e (by decide)
  ·
    clear e
    refine w_iload_n C (i := 2) (x := Int32.ofNat B) (d (by decide +kernel)) (List.Mem.tail _ (List.Mem.tail _ (List.Mem.head _))) ?_
    refine w_iconst C (n := 0) (d (by decide +kernel)) ?_
    refine w_bipush C (n := 127) (z := 127) (d (by decide +kernel)) (by decide) ?_
    refine w_callS (As := [.int (Int32.ofNat B), .int (Int32.ofInt 0), .int 127]) C cbI hst (hMI _ _ _ _) rfl (Nat.le_of_ble_eq_true rfl) hrI (d (by decide +kernel)) (fun v ws' hK => ?_) (fun E ws' hK => by cases hK.1)
    obtain ⟨hv, rfl⟩ := hK
    cases hv
    rw [r1, r2]
    show WS k 23 [(0, .ref bt), (1, .int (Int32.ofNat A)), (2, .int (Int32.ofNat B)), (3, .int P)] [.int (inV (Int32.ofNat B) (Int32.ofInt 0) 127), .ref bt] (Wd 0 f0) 0 0
    rw [iB]
    refine w_if_ne C (off := 7) (t := 30) (d (by decide +kernel)) (by decide) (fun e => ?_) (fun e => ?_)
    ·
      clear e
      refine w_iconst C (n := 0) (d (by decide +kernel)) ?_
      refine w_iconst C (n := 1) (d (by decide +kernel)) ?_
      refine w_callV (As := [.int (Int32.ofInt 0), .int (Int32.ofInt 1)]) (st := []) (q0 := qt) C cbB hi hse (hMB _ _ _ (Or.inl rfl)) (P1 _ _) hvc rfl (by decide) hrB (d (by decide +kernel)) (fun v ws' hK => ?_) (fun E ws' hK => by rcases hK with hK | hK <;> cases hK.2.1)
      have hK : v = some (.int 0) ∧ ws' = Wd 0 f0 := by
        rcases hK with hK | hK
        · exact ⟨by have := hK.2.1; cases this; rfl, hK.2.2⟩
        · exact absurd hK.1 (by decide)
      obtain ⟨rfl, rfl⟩ := hK
      rw [r3, r4]
      show WS k 35 [(0, .ref bt), (1, .int (Int32.ofNat A)), (2, .int (Int32.ofNat B)), (3, .int P)] [.int 0] (Wd 0 f0) 0 0
      refine w_if_ne C (off := 65) (t := 100) (d (by decide +kernel)) (by decide) (fun e => ?_) (fun e => ?_)
      ·
        exact absurd rfl e
      ·
        clear e
        refine w_aload_n C (i := 0) (x := bt) (d (by decide +kernel)) (List.Mem.head _) ?_
        refine w_iload_n C (i := 3) (x := P) (d (by decide +kernel)) (List.Mem.tail _ (List.Mem.tail _ (List.Mem.tail _ (List.Mem.head _)))) ?_
        refine w_iconst C (n := (-1)) (d (by decide +kernel)) ?_
        refine w_bipush C (n := 7) (z := 7) (d (by decide +kernel)) (by decide) ?_
        refine w_callS (As := [.int P, .int (Int32.ofInt (-1)), .int 7]) C cbI hst (hMI _ _ _ _) rfl (Nat.le_of_ble_eq_true rfl) hrI (d (by decide +kernel)) (fun v ws' hK => ?_) (fun E ws' hK => by cases hK.1)
        obtain ⟨hv, rfl⟩ := hK
        cases hv
        rw [r1, r2]
        show WS k 46 [(0, .ref bt), (1, .int (Int32.ofNat A)), (2, .int (Int32.ofNat B)), (3, .int P)] [.int (inV P (Int32.ofInt (-1)) 7), .ref bt] (Wd 0 f0) 0 0
        rw [iP]
        refine w_if_eq C (off := 42) (t := 88) (d (by decide +kernel)) (by decide) (fun e => ?_) (fun e => ?_)
        ·
          exact absurd e (by decide)
        ·
          clear e
          refine w_iload_n C (i := 1) (x := Int32.ofNat A) (d (by decide +kernel)) (List.Mem.tail _ (List.Mem.head _)) ?_
          refine w_bipush C (n := 64) (z := 64) (d (by decide +kernel)) (by decide) ?_
          refine w_idiv C (d (by decide +kernel)) (by decide) ?_
          rw [a1]
          refine w_iload_n C (i := 2) (x := Int32.ofNat B) (d (by decide +kernel)) (List.Mem.tail _ (List.Mem.tail _ (List.Mem.head _))) ?_
          refine w_bipush C (n := 64) (z := 64) (d (by decide +kernel)) (by decide) ?_
          refine w_idiv C (d (by decide +kernel)) (by decide) ?_
          rw [b1]
          refine w_icmp_ne C (off := 31) (t := 88) (d (by decide +kernel)) (by decide) (fun e => ?_) (fun e => ?_)
          ·
            exact L88 (fun hv => e (by rw [hv.1]))
          ·
            have e1 : A / 64 = B / 64 := (on_eq (by omega) (by omega)).mp e
            refine w_iload_n C (i := 1) (x := Int32.ofNat A) (d (by decide +kernel)) (List.Mem.tail _ (List.Mem.head _)) ?_
            refine w_bipush C (n := 8) (z := 8) (d (by decide +kernel)) (by decide) ?_
            refine w_irem C (d (by decide +kernel)) (by decide) ?_
            rw [a4]
            refine w_iload_n C (i := 2) (x := Int32.ofNat B) (d (by decide +kernel)) (List.Mem.tail _ (List.Mem.tail _ (List.Mem.head _))) ?_
            refine w_bipush C (n := 8) (z := 8) (d (by decide +kernel)) (by decide) ?_
            refine w_irem C (d (by decide +kernel)) (by decide) ?_
            rw [b4]
            refine w_icmp_gt C (off := 20) (t := 88) (d (by decide +kernel)) (by decide) (fun e2 => ?_) (fun e2 => ?_)
            ·
              exact L88 (fun hv => absurd ((on_lt (by omega) (by omega)).mp e2) (by have := hv.2.1; omega))
            ·
              have e3 : A % 8 ≤ B % 8 := Nat.le_of_not_lt (fun z => e2 ((on_lt (by omega) (by omega)).mpr z))
              refine w_iload_n C (i := 1) (x := Int32.ofNat A) (d (by decide +kernel)) (List.Mem.tail _ (List.Mem.head _)) ?_
              refine w_bipush C (n := 8) (z := 8) (d (by decide +kernel)) (by decide) ?_
              refine w_idiv C (d (by decide +kernel)) (by decide) ?_
              refine w_bipush C (n := 8) (z := 8) (d (by decide +kernel)) (by decide) ?_
              refine w_irem C (d (by decide +kernel)) (by decide) ?_
              rw [a5]
              refine w_iload_n C (i := 2) (x := Int32.ofNat B) (d (by decide +kernel)) (List.Mem.tail _ (List.Mem.tail _ (List.Mem.head _))) ?_
              refine w_bipush C (n := 8) (z := 8) (d (by decide +kernel)) (by decide) ?_
              refine w_idiv C (d (by decide +kernel)) (by decide) ?_
              refine w_bipush C (n := 8) (z := 8) (d (by decide +kernel)) (by decide) ?_
              refine w_irem C (d (by decide +kernel)) (by decide) ?_
              rw [b5]
              refine w_icmp_le C (off := 7) (t := 92) (d (by decide +kernel)) (by decide) (fun e4 => ?_) (fun e4 => ?_)
              ·
                exact L92 ⟨e1, e3, (on_le (by omega) (by omega)).mp e4⟩
              ·
                exact L88 (fun hv => e4 ((on_le (by omega) (by omega)).mpr hv.2.2))
    ·
      exact absurd e (by decide)
