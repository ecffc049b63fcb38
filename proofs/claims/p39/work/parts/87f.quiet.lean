theorem oq_537ca82a {a0 a1 a2 : Int} (h0 : a0 ≤ a1) (h1 : a2 ≤ a0) (h2 : a2 = a1) : a0 = a1 := by omega
theorem oq_b1226e90 {a0 a1 a2 : Int} (h0 : a0 = a1) (h1 : a2 < a0) : (a2 + 1) ≤ a1 := by omega
theorem oq_c2d8fe16 {a0 a1 : Int} (h0 : 0 ≤ a0) (h1 : 0 ≤ a1) : 0 ≤ ((a1 + a0) + 1) := by omega
theorem oq_fa1aa5d6 {a0 a1 a2 : Int} (h0 : a0 = a1) (h1 : (a2 + 1) < a0) : (a2 + 1) ≤ a1 := by omega
theorem oq_dae09544 {a0 a1 a2 : Int} (h0 : a0 ≤ a1) (h1 : a2 = a1) (h2 : a2 ≤ a0) : a0 = a1 := by omega
theorem oq_8a89b3ae {a0 a1 a2 : Int} (h0 : a0 < a1) (h1 : a1 = a2) : (a0 + 1) ≤ a2 := by omega
theorem oq_f918b005 {a0 : Int} (h0 : a0 ≤ 1200) : a0 ≤ 2147483647 := by omega
theorem oq_9f99e80f {a0 a1 a2 a3 : Int} (h0 : a0 = 0) (h1 : 0 ≤ a1) (h2 : ((a2 = 1 ∧ (a3 = 0 ∧ (a1 = 1 ∧ a0 = 1))) ∨ ((a2 = 0 ∨ a3 ≠ 0) ∧ (a1 = a3 ∧ ((a0 = 0 ∧ a3 = 0) ∨ (a0 = 1 ∧ a3 ≠ 0)))))) (h3 : a3 = 0) : a1 = 0 := by omega
/-! Bits of longs -/
theorem ts_bit {w : Int64} {s : UInt64} {j : Nat} (hj : j < 64) (hs : s.toNat = j) : ((w.toUInt64 >>> s).toInt64 &&& 1) = 0 ↔ w.toBitVec.getLsbD j = false := by
  have e : (w.toUInt64 >>> s).toInt64.toBitVec = w.toBitVec >>> j := by
    apply BitVec.eq_of_toNat_eq
    show (w.toUInt64 >>> s).toNat = _
    rw [UInt64.toNat_shiftRight, hs, Nat.mod_eq_of_lt hj, BitVec.toNat_ushiftRight]
    rfl
  rw [← Int64.toBitVec_inj, Int64.toBitVec_and, e]
  show w.toBitVec >>> j &&& 1#64 = 0#64 ↔ _
  constructor
  · intro h
    have t := congrArg (fun x => x.getLsbD 0) h
    simpa using t
  · intro h
    apply BitVec.eq_of_getLsbD_eq
    intro i hi
    cases i with
    | zero => simp [h]
    | succ i => simp
theorem wb_cu : ∀ k, k < 64 → ((nI k).toInt64.toUInt64 &&& Int64.toUInt64 63).toNat = k := by decide +kernel
theorem jm_1 : ∀ n, n < 64 → ((1 : Int64) <<< ((nI n).toInt64 &&& 63)).toBitVec = BitVec.twoPow 64 n := by decide +kernel
def jushr (x : Int64) (c : Int) : Int64 := (x.toUInt64 >>> ((Int32.ofInt c).toInt64.toUInt64 &&& Int64.toUInt64 63)).toInt64
def jshl (x : Int64) (c : Int) : Int64 := x <<< ((Int32.ofInt c).toInt64 &&& 63)
/-- bit i of a long -/
def bJ (x : Int64) (i : Nat) : Prop := x.toBitVec.getLsbD i = true
theorem jb_0 {x : Int64} {c : Int} (h : 0 ≤ c ∧ c < 64) : (jushr x c &&& 1) = 0 ↔ ¬ bJ x c.toNat := by
  have e : ((Int32.ofInt c).toInt64.toUInt64 &&& Int64.toUInt64 63).toNat = c.toNat := by rw [on_of h.1]; exact wb_cu c.toNat (by omega)
  have := ts_bit (w := x) (j := c.toNat) (by omega) e
  unfold jushr bJ
  rw [this]
  cases x.toBitVec.getLsbD c.toNat <;> decide
section ZJ
variable {k : kx_T} {mn pc : Nat} {dT : Nat → ClassId} {lv : List (Nat × Value)} {st : List Value} {ws : va_W} {ce sl a b : Nat} {z : Int}
theorem z_jushr (X : AX k mn dT) {x : Int64} {c : Int} (h : cdA mn pc = some (.lushr, 1, a, b, z)) (g : WS k (pc + 1) lv (.long (jushr x c) :: st) ws ce sl) : WS k pc lv (.int (Int32.ofInt c) :: .long x :: st) ws ce sl := w_lushr X.1 (ax_d X h) g
theorem z_jshl (X : AX k mn dT) {x : Int64} {c : Int} (h : cdA mn pc = some (.lshl, 1, a, b, z)) (g : WS k (pc + 1) lv (.long (jshl x c) :: st) ws ce sl) : WS k pc lv (.int (Int32.ofInt c) :: .long x :: st) ws ce sl := w_lshl X.1 (ax_d X h) g
theorem z_jcmp (X : AX k mn dT) {x y : Int64} (h : cdA mn pc = some (.lcmp, 1, a, b, z)) (g1 : x = y → WS k (pc + 1) lv (.int (Int32.ofInt 0) :: st) ws ce sl) (g2 : x ≠ y → ∀ c : Int, rng c → c ≠ 0 → WS k (pc + 1) lv (.int (Int32.ofInt c) :: st) ws ce sl) : WS k pc lv (.long y :: .long x :: st) ws ce sl := by
  refine w_lcmp X.1 (ax_d X h) ?_
  by_cases q : x = y
  · have e : lg_cmp x y = Int32.ofInt 0 := by rw [(lg_cmp_eq x y).mpr q]; rfl
    rw [e]; exact g1 q
  · have h9 := g2 q (lg_cmp x y).toInt (rng_to _) (fun w => q ((lg_cmp_eq x y).mp (Int32.toInt_inj.mp (show _ = (0 : Int32).toInt from w))))
    rwa [ofi_to] at h9
theorem z_and63 (X : AX k mn dT) {x : Int} (h : cdA mn pc = some (.iand, 1, a, b, z)) (hx : 0 ≤ x ∧ x ≤ 127) (g : WS k (pc + 1) lv (.int (Int32.ofInt (x % 64)) :: st) ws ce sl) : WS k pc lv (.int (Int32.ofInt 63) :: .int (Int32.ofInt x) :: st) ws ce sl := by
  refine w_iand X.1 (ax_d X h) ?_
  rw [and_ex (m := 63) (f := fun x => x % 64) (by decide) (by decide +kernel) hx]
  exact g
end ZJ
/-! Rows of longs, bit by bit: the cells that a stream comes to -/
section ZL
variable {k : kx_T} {mn pc : Nat} {A : Nat → Nat} {dT : Nat → ClassId} {s : PS} {lv : List (Nat × Value)} {st : List Value} {ce sl : Nat}
theorem z_lalE (X : AX k mn dT) (c : Nat) {n q : Nat} {i : Int} (h : cdA mn pc = some (.laload, 1, 0, 0, 0)) (hc : c < 518) (hb : bsS c = .inl (1, n, .inr (0, 0, q))) (h0 : 0 ≤ i) (hi : i < (n : Int)) (hn : n < 2147483648) (g : WS k (pc + 1) lv (.long (gD s q i.toNat) :: st) (Wd A dT s) ce sl) : WS k pc lv (.int (Int32.ofInt i) :: .ref (A c) :: st) (Wd A dT s) ce sl := by
  rw [on_of h0]
  exact s_lald X c h hc hb (by omega) hn g
end ZL
theorem jb_o {x : Int64} {c : Int} {i : Nat} (h : 0 ≤ c ∧ c < 64) (hi : i < 64) : bJ (x ||| jshl 1 c) i ↔ bJ x i ∨ i = c.toNat := by
  have e : (jshl 1 c).toBitVec = BitVec.twoPow 64 c.toNat := by unfold jshl; rw [on_of h.1]; exact jm_1 c.toNat (by omega)
  unfold bJ
  rw [Int64.toBitVec_or, BitVec.getLsbD_or, e, BitVec.getLsbD_twoPow]
  have h1 : decide (c.toNat < 64) = true := decide_eq_true (by omega)
  rw [h1]
  by_cases q : i = c.toNat
  · rw [decide_eq_true q.symm]; simp [q]
  · rw [decide_eq_false (fun z => q z.symm)]; simp [q]
theorem jb_z {i : Nat} : ¬ bJ (0 : Int64) i := by
  unfold bJ
  show ¬ ((0#64).getLsbD i = true)
  rw [BitVec.getLsbD_zero]
  decide
theorem gD_u {s : PS} {a j : Nat} {x : Int64} : gD (uD s a j x) a j = x := by
  show (if a = a then vp_updL (s.2.2.2.1 a) j x else s.2.2.2.1 a) j = x
  rw [if_pos rfl]
  show (if j = j then x else s.2.2.2.1 a j) = x
  rw [if_pos rfl]
theorem gD_n {s : PS} {a j i : Nat} {x : Int64} (h : i ≠ j) : gD (uD s a j x) a i = gD s a i := by
  show (if a = a then vp_updL (s.2.2.2.1 a) j x else s.2.2.2.1 a) i = _
  rw [if_pos rfl]
  show (if i = j then x else s.2.2.2.1 a i) = _
  rw [if_neg h]
/-- the masks are as they were -/
def SDM (s t : PS) : Prop := ∀ j : Nat, gD t 3 j = gD s 3 j
theorem sdm_rf {s : PS} : SDM s s := fun _ => rfl
theorem sdm_ts {s t u : PS} (h : SDM s t) (g : SDM t u) : SDM s u := fun j => (g j).trans (h j)
theorem sdm_fm {L M : List Nat} {s t : PS} (F : Fm L M s t) (h : 3 + 1000 ∉ M) : SDM s t := fun _ => fm_dd F h
/-- what is heard of a cell all day: the totals of the streams that come to it -/
theorem qs_y {G : Int → Int} {m c v : Int} (hq : m = sqn G c.toNat) (hc : 0 ≤ c) (hv : v = G c) : m + v = sqn G (c + 1).toNat := by rw [hq]; exact sqn_up hc hv
theorem or_0 {e : Int} {p q : Prop} (h : (e = 1 ∧ p) ∨ (e = 0 ∧ q)) (he : e = 0) : q := h.elim (fun z => by omega) (fun z => z.2)
section M87f
variable {l : Launch} {s0 : State} {D : va_G} {tys : List (ClassId × FieldType)} {a0 : Array Value} {A : Nat → Nat} {dT : Nat → ClassId} {s : PS}
set_option maxRecDepth 4000 in
theorem c9_comesToM (G : GX l s0 D tys a0 dT) (I : Bd s) {x y : Int} (p0 : 0 ≤ x ∧ x ≤ 11) (p1 : 0 ≤ y ∧ y ≤ 127) : CT l s0 D A dT 123 (rmN 123) [.ref (A 3), .int (Int32.ofInt x), .int (Int32.ofInt y)] s (fun o t => s = t ∧ ∃ e, o = .inl (some (.int (Int32.ofInt e))) ∧ rng e ∧ ((e = 1 ∧ bJ (gD s 3 (x * 2 + y / 64).toNat) (y % 64).toNat) ∨ (e = 0 ∧ ¬ bJ (gD s 3 (x * 2 + y / 64).toNat) (y % 64).toNat))) := by
  refine ct_ofX G (by decide) (Nat.le_of_ble_eq_true rfl) (fun k X E ET hRt hXt q => ?_)
  show WS k 0 [(0, .ref (A 3)), (1, .int (Int32.ofInt x)), (2, .int (Int32.ofInt y))] [] _ 0 0
  have F : Fm [] [] s s := fm_rf _ _ s
  refine z_aload_n X (x := A 3) rfl (List.Mem.head _) (s_getR X 3 rfl (c518_ok rfl) rfl rfl (z_load_n X (x := x) rfl (List.Mem.tail _ (List.Mem.head _)) (z_const X rfl (z_mul X rfl (z_load_n X (x := y) rfl (List.Mem.tail _ (List.Mem.tail _ (List.Mem.head _))) (z_bipush X rfl (z_quot X rfl (by first | exact p1.1 | omega) ⟨by first | exact oq_fa4e5087 p1.1 | omega, by first | exact oq_07d346ce p1.2 | omega⟩ (by decide) (by decide) (z_add X rfl (z_lalE X 6 rfl (by decide) rfl (by first | exact oq_c0bd8137 p1.1 p0.1 | omega) (show ((x * 2) + (y / 64)) < 24 by first | exact oq_c80b6473 p1.2 p0.2 | omega) (by decide) (z_load_n X (x := y) rfl (List.Mem.tail _ (List.Mem.tail _ (List.Mem.head _))) (z_bipush X rfl ?_)))))))))))
  refine z_and63 X rfl (by omega) (z_jushr X rfl (w_lconst X.1 (ax_d X (show cdA 123 18 = some (.lconst 1, 1, 0, 0, 0) from rfl)) (z := (1 : Int64)) (by decide) (w_land X.1 (ax_d X (show cdA 123 19 = some (.land, 1, 0, 0, 0) from rfl)) (w_lconst X.1 (ax_d X (show cdA 123 20 = some (.lconst 0, 1, 0, 0, 0) from rfl)) (z := (0 : Int64)) (by decide) (z_jcmp X rfl (fun z1 => ?_) (fun z1 c2 hc2 ic2 => ?_))))))
  ·
    refine z_if_eq X (t := 29) rfl rfl (by decide) (fun g3 => ?_) (fun g3 => ?_)
    ·
      refine z_const X rfl ?_
      exact w_iret X.1 q hRt (nar_ret (by first | exact Or.inl (by decide) | omega)) (ax_d X (show cdA 123 30 = some (.ireturn, 1, 0, 0, 0) from rfl)) (Nat.zero_le _) (Nat.zero_le _) ⟨_, rfl, rfl, 0, rfl, (by decide), Or.inr ⟨rfl, (jb_0 (by omega)).mp z1⟩⟩
    ·
      exfalso
      omega
  ·
    refine z_if_eq X (t := 29) rfl rfl ⟨by omega, by omega⟩ (fun g4 => ?_) (fun g4 => ?_)
    ·
      refine z_const X rfl ?_
      exact w_iret X.1 q hRt (nar_ret (by first | exact Or.inl (by decide) | omega)) (ax_d X (show cdA 123 30 = some (.ireturn, 1, 0, 0, 0) from rfl)) (Nat.zero_le _) (Nat.zero_le _) ⟨_, rfl, rfl, 0, rfl, (by decide), by omega⟩
    ·
      refine z_const X rfl (z_goto X (t := 30) rfl rfl ?_)
      exact w_iret X.1 q hRt (nar_ret (by first | exact Or.inr (by decide) | omega)) (ax_d X (show cdA 123 30 = some (.ireturn, 1, 0, 0, 0) from rfl)) (Nat.zero_le _) (Nat.zero_le _) ⟨_, rfl, rfl, 1, rfl, (by decide), Or.inl ⟨rfl, Classical.byContradiction (fun q => z1 ((jb_0 (by first | (clear g4; omega) | omega)).mpr q))⟩⟩
set_option maxRecDepth 4000 in
theorem k_total2 (G : GX l s0 D tys a0 dT) (I : Bd s) {x : Int} (p0 : 0 ≤ x ∧ x ≤ 11) : CT l s0 D A dT 248 (rmN 248) [.ref (A 179), .int (Int32.ofInt x)] s (fun o t => Bd t ∧ Fm [] [] s t ∧ ∃ e, o = .inl (some (.int (Int32.ofInt e))) ∧ rng e ∧ (0 ≤ e ∧ e ≤ 1200 ∧ e = sqn (CMR s x) 24)) := by
  refine ct_of G (by decide) (Nat.le_of_ble_eq_true rfl) (fun k X E hRt hXt q => ?_)
  show WS k 0 [(0, .ref (A 179)), (1, .int (Int32.ofInt x))] [] _ 0 0
  have F : Fm [] [] s s := fm_rf _ _ s
  have L4 : ∀ (n : Nat) (t : PS) (xv nv c : Int), Bd t → Fm [] [] s t → (nv = sqn (CMR s x) (c).toNat) → (xv = x ∧ (0 ≤ xv ∧ xv ≤ 11) ∧ 0 ≤ nv ∧ nv ≤ 50 * c ∧ 0 ≤ c ∧ c ≤ 24) → (24 - c : Int).toNat < n → (∀ (t' : PS) (nv' c' : Int), Bd t' → Fm [] [] s t' → (nv' = sqn (CMR s x) 24) → (0 ≤ nv' ∧ nv' ≤ 1200) → WS k 27 [(0, .ref (A 179)), (1, .int (Int32.ofInt xv)), (2, .int (Int32.ofInt nv')), (3, .int (Int32.ofInt c'))] [] (Wd A dT t') 0 0) → WS k 4 [(0, .ref (A 179)), (1, .int (Int32.ofInt xv)), (2, .int (Int32.ofInt nv)), (3, .int (Int32.ofInt c))] [] (Wd A dT t) 0 0 := by
    intro n
    induction n with
    | zero =>
      intro t xv nv c I F hq hi hm kx
      exact absurd hm (Nat.not_lt_zero _)
    | succ n ih =>
      intro t xv nv c I F hq hi hm kx
      refine z_load_n X (x := c) rfl (List.Mem.tail _ (List.Mem.tail _ (List.Mem.tail _ (List.Mem.head _)))) (z_bipush X rfl (z_icmp_ge X (t := 27) rfl rfl ⟨by first | exact oq_fa4e5087 hi.2.2.2.2.1 | omega, by first | exact oq_5bcd337f hi.2.2.2.2.2 | omega⟩ (by decide) (fun g1001 => ?_) (fun g1001 => ?_)))
      ·
        refine WS_pq [0, 1, 2, 3] (lv' := [(0, .ref (A 179)), (1, .int (Int32.ofInt xv)), (2, .int (Int32.ofInt nv)), (3, .int (Int32.ofInt c))]) rfl ?_
        exact kx _ nv c I F (by rw [hq, show c = 24 by omega]; rfl) (by first | exact ⟨hi.2.2.1, oq_552552b9 hi.2.2.2.1 hi.2.2.2.2.2⟩ | omega)
      ·
        refine z_load_n X (x := nv) rfl (List.Mem.tail _ (List.Mem.tail _ (List.Mem.head _))) (z_aload_n X (x := A 179) rfl (List.Mem.head _) (s_getR X 179 rfl (c518_ok rfl) rfl rfl (z_load_n X (x := xv) rfl (List.Mem.tail _ (List.Mem.head _)) (z_aald X rw_215 rfl (by first | exact hi.2.1.1 | omega) (show xv < 12 by first | exact oq_0ddfcfee hi.2.1.2 | omega) (by decide) (z_load_n X (x := c) rfl (List.Mem.tail _ (List.Mem.tail _ (List.Mem.tail _ (List.Mem.head _)))) (z_ald2 X rw_215 rfl (show (xv : Int).toNat < 12 by first | exact oq_9c5fa447 hi.2.1.2 | omega) (by first | exact hi.2.2.2.2.1 | omega) (show c < 24 by first | exact g1001 | omega) (by decide) ?_))))))
        have b1002 : (0 : Int) ≤ (iC t (190 + (xv : Int).toNat) (c : Int).toNat) ∧ (iC t (190 + (xv : Int).toNat) (c : Int).toNat) ≤ 50 := rw_bd rw_215 I (show (xv : Int).toNat < 12 by first | exact oq_9c5fa447 hi.2.1.2 | omega) (show (c : Int).toNat < 24 by first | exact oq_797efae6 g1001 | omega)
        refine z_add X rfl (z_store_n X (lv' := [(2, .int (Int32.ofInt (nv + (iC t (190 + (xv : Int).toNat) (c : Int).toNat)))), (0, .ref (A 179)), (1, .int (Int32.ofInt xv)), (3, .int (Int32.ofInt c))]) rfl (by decide) (fun _ h => h) (z_inc X (x := c) (lv' := [(3, .int (Int32.ofInt (c + 1))), (2, .int (Int32.ofInt (nv + (iC t (190 + (xv : Int).toNat) (c : Int).toNat)))), (0, .ref (A 179)), (1, .int (Int32.ofInt xv))]) rfl (by decide) (List.Mem.tail _ (List.Mem.tail _ (List.Mem.tail _ (List.Mem.head _)))) (fun _ h => h) (z_goto X (t := 4) rfl rfl (WS_pq [2, 3, 1, 0] (lv' := [(0, .ref (A 179)), (1, .int (Int32.ofInt xv)), (2, .int (Int32.ofInt (nv + (iC t (190 + (xv : Int).toNat) (c : Int).toNat)))), (3, .int (Int32.ofInt (c + 1)))]) rfl ?_))))
        exact ih _ xv (nv + (iC t (190 + (xv : Int).toNat) (c : Int).toNat)) (c + 1) I F (qs_y hq (by omega) (by rw [show xv = x by omega]; exact fm_c F List.not_mem_nil)) (by first | exact ⟨hi.1, And.intro (hi.2.1.1) (hi.2.1.2), oq_dd29f52d hi.2.2.1 b1002.1, oq_d1fd8eeb hi.2.2.2.1 b1002.2, oq_54f49eb5 hi.2.2.2.2.1, oq_cec7cb2e g1001⟩ | omega) (by first | exact qk_me hm (by decide) (oq_ffa8317e g1001) | omega) kx
  refine z_const X rfl (z_store_n X (lv' := [(2, .int (Int32.ofInt 0)), (0, .ref (A 179)), (1, .int (Int32.ofInt x))]) rfl (by decide) (fun _ h => h) (z_const X rfl (z_store_n X (lv' := [(3, .int (Int32.ofInt 0)), (2, .int (Int32.ofInt 0)), (0, .ref (A 179)), (1, .int (Int32.ofInt x))]) rfl (by decide) (fun _ h => h) (WS_pq [2, 3, 1, 0] (lv' := [(0, .ref (A 179)), (1, .int (Int32.ofInt x)), (2, .int (Int32.ofInt 0)), (3, .int (Int32.ofInt 0))]) rfl (L4 ((24 - 0 : Int).toNat + 1) s x 0 0 I F rfl (by first | exact ⟨by decide, And.intro (p0.1) (p0.2), by decide, by decide, by decide, by decide⟩ | omega) (Nat.lt_succ_self _) ?_)))))
  intro s1 x2 x3 Is1 Fs1 Qs1 hs1
  refine z_load_n X (x := x2) rfl (List.Mem.tail _ (List.Mem.tail _ (List.Mem.head _))) ?_
  exact w_iret X.1 q hRt rfl (ax_d X (show cdA 248 28 = some (.ireturn, 1, 0, 0, 0) from rfl)) (Nat.zero_le _) (Nat.zero_le _) ⟨_, rfl, Is1, Fs1, x2, rfl, ⟨by first | exact oq_fa4e5087 hs1.1 | omega, by first | exact oq_f918b005 hs1.2 | omega⟩, ⟨by first | exact hs1.1 | omega, by first | exact hs1.2 | omega, Qs1⟩⟩
end M87f
