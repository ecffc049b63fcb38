theorem oq_5bf2829b : 8 + 1 ≤ 2048 := by omega
theorem oq_e23742ae : 8 + (6 + 11) + 147 ≤ 84000 := by omega
theorem oq_4d34cb53 : 6 + 1 ≤ 2048 := by omega
theorem oq_e10754c2 : 8 + (8 + 11) + 100 ≤ 84000 := by omega
theorem oq_f34933ba {a0 a1 a2 : Int} (h0 : a0 = a1) (h1 : a1 = a2) (h2 : a2 = 1) (h3 : 1 ≤ a2) : a0 = 1 := by omega
theorem oq_5bcdc35f {a0 a1 a2 a3 a4 a5 : Int} (h0 : a0 = a1) (h1 : a2 = a3) (h2 : a1 = a4) (h3 : a3 = a5) (h4 : a5 = a4) : a2 = a0 := by omega
theorem oq_5655e407 : 10 + 1 ≤ 2048 := by omega
theorem oq_0b5c09a5 : 8 + (3 + 11) + 191 ≤ 84000 := by omega
theorem oq_0ed3bd18 : 61 + 1 ≤ 2048 := by omega
theorem oq_735d5381 : 8 + (3 + 11) + 2660 ≤ 84000 := by omega
theorem oq_fe6fba7f {a0 a1 a2 a3 a4 a5 a6 : Int} (h0 : 0 ≤ a0) (h1 : a1 = a2) (h2 : ((0 ≤ a3 ∧ (a3 ≤ a4 ∧ a0 = 0)) ∨ ((a3 < 0 ∨ a4 < a3) ∧ a0 = a4))) (h3 : ((0 ≤ a3 ∧ (a3 ≤ a5 ∧ a2 = 0)) ∨ ((a3 < 0 ∨ a5 < a3) ∧ a2 = a5))) (h4 : a4 = a6) (h5 : 0 ≤ a2) (h6 : a5 = a6) : a1 = a0 := by omega
theorem oq_a32dccc4 : 8 + (1 + 11) + 100 ≤ 84000 := by omega
theorem oq_4e6106eb : 7 + 1 ≤ 2048 := by omega
theorem oq_38d194b9 : 8 + (3 + 11) + 122 ≤ 84000 := by omega
theorem oq_380e4f97 : 8 + (6 + 11) + 122 ≤ 84000 := by omega
theorem oq_ebbf79c1 : 8 + (4 + 11) + 122 ≤ 84000 := by omega
theorem oq_49295347 {a0 a1 a2 a3 a4 : Int} (h0 : ((a0 = 0 ∧ (0 ≤ a1 ∧ (a1 < a2 ∧ (0 ≤ a3 ∧ (a3 ≤ 2 ∧ (0 ≤ a4 ∧ a4 ≤ 2)))))) ∨ ((a0 = 1 ∧ (a1 < 0 ∨ a2 ≤ a1)) ∨ (a0 = 2 ∧ (0 ≤ a1 ∧ (a1 < a2 ∧ (a3 < 0 ∨ (2 < a3 ∨ (a4 < 0 ∨ 2 < a4))))))))) : (-2147483648) ≤ a0 := by omega
theorem oq_336ad543 {a0 a1 a2 a3 a4 : Int} (h0 : ((a0 = 0 ∧ (0 ≤ a1 ∧ (a1 < a2 ∧ (0 ≤ a3 ∧ (a3 ≤ 2 ∧ (0 ≤ a4 ∧ a4 ≤ 2)))))) ∨ ((a0 = 1 ∧ (a1 < 0 ∨ a2 ≤ a1)) ∨ (a0 = 2 ∧ (0 ≤ a1 ∧ (a1 < a2 ∧ (a3 < 0 ∨ (2 < a3 ∨ (a4 < 0 ∨ 2 < a4))))))))) : a0 ≤ 2147483647 := by omega
theorem oq_263907be : 8 + (3 + 11) + 146 ≤ 84000 := by omega
theorem oq_2596b3cb : 37 + 1 ≤ 2048 := by omega
theorem oq_93887b04 : 8 + (5 + 11) + 1578 ≤ 84000 := by omega
theorem oq_dead3895 : 39 + 1 ≤ 2048 := by omega
theorem oq_16841511 : 8 + (5 + 11) + 1622 ≤ 84000 := by omega
theorem oq_1d601463 : 9 + 1 ≤ 2048 := by omega
theorem oq_485672f1 : 8 + (2 + 11) + 171 ≤ 84000 := by omega
theorem oq_da2b07c8 : 8 + (6 + 11) + 171 ≤ 84000 := by omega
theorem oq_f75bb075 : 8 + (7 + 11) + 122 ≤ 84000 := by omega
theorem oq_dd1cdbfa : 11 + 1 ≤ 2048 := by omega
theorem oq_c1432001 : 8 + (6 + 11) + 212 ≤ 84000 := by omega
theorem oq_b95bb2bf : 8 + (2 + 11) + 224 ≤ 84000 := by omega
theorem oq_2450e786 : 8 + (2 + 11) + 1622 ≤ 84000 := by omega
theorem oq_f781d9f4 : 12 + 1 ≤ 2048 := by omega
theorem oq_d9c24595 : 8 + (1 + 11) + 237 ≤ 84000 := by omega
theorem oq_2c2f0271 : 41 + 1 ≤ 2048 := by omega
theorem oq_260410fd : 8 + (1 + 11) + 1663 ≤ 84000 := by omega
theorem oq_38aede7b : 42 + 1 ≤ 2048 := by omega
theorem oq_b5fdcedd : 8 + (2 + 11) + 1687 ≤ 84000 := by omega
theorem oq_e190c71b : 8 + (3 + 11) + 1687 ≤ 84000 := by omega
theorem oq_a3fac05c : 38 + 1 ≤ 2048 := by omega
theorem oq_e81fc71d : 8 + (3 + 11) + 1601 ≤ 84000 := by omega
theorem oq_8731b8c0 : 8 + (2 + 11) + 100 ≤ 84000 := by omega
theorem oq_f09e007f : 8 + (2 + 11) + 122 ≤ 84000 := by omega
theorem oq_03e28196 : 62 + 1 ≤ 2048 := by omega
theorem oq_1f8b0a4c : 8 + (3 + 11) + 2686 ≤ 84000 := by omega
theorem oq_e8f78630 {a0 a1 a2 : Int} (h0 : 1 ≤ a0) (h1 : (a1 = 1 → a0 = 1)) (h2 : a1 = a2) (h3 : 1 ≤ a2) (h4 : a2 = 1) : a0 = 1 := by omega
theorem oq_5cbe2cb6 : 64 + 1 ≤ 2048 := by omega
theorem oq_276d7037 : 8 + (6 + 11) + 2742 ≤ 84000 := by omega
theorem oq_31d93303 : 8 + (4 + 11) + 2742 ≤ 84000 := by omega
theorem oq_151ba25b : 8 + (3 + 11) + 2742 ≤ 84000 := by omega
theorem oq_c67cc45d : 73 + 1 ≤ 2048 := by omega
theorem oq_f40e0be7 : 8 + (7 + 11) + 3227 ≤ 84000 := by omega
theorem oq_f8649f31 : 8 + (6 + 11) + 189 ≤ 84000 := by omega
theorem oq_8fd475f0 : 8 + (7 + 11) + 145 ≤ 84000 := by omega
theorem oq_d572abc1 : 8 + (10 + 11) + 1578 ≤ 84000 := by omega
theorem oq_b102b2ee : 8 + (6 + 11) + 1663 ≤ 84000 := by omega
theorem oq_24286ecc : 8 + (4 + 11) + 123 ≤ 84000 := by omega
theorem oq_23aa4b49 : 8 + (1 + 11) + 120 ≤ 84000 := by omega
theorem oq_6fd3db4b : 8 + (1 + 11) + 147 ≤ 84000 := by omega
theorem oq_ca72eefc : 8 + (2 + 11) + 143 ≤ 84000 := by omega
/-! The law's loop: a call of class and model each round -/
/-- the script's int at i -/
def sc (xs : Nat → Int32) (i : Int) : Int := (xs i.toNat).toInt
theorem sc_rng {xs : Nat → Int32} {i : Int} : rng (sc xs i) := rng_to _
/-- the script, as the law's activation sees it -/
def SX (k : kx_T) (b L : Nat) (xs : Nat → Int32) : Prop := va_X b L xs (kS k) (kS k).heap ∧ b < (kS k).heap.size ∧ ¬ kF k b
section ZS
variable {k : kx_T} {mn pc : Nat} {dT : Nat → ClassId} {lv : List (Nat × Value)} {st : List Value} {ws : va_W} {ce sl a b0 b L : Nat} {z : Int} {xs : Nat → Int32}
theorem sx_in {i c : Int} {L : Nat} (h : 0 ≤ i ∧ i + 6 ≤ (L : Int)) (k : 0 ≤ c ∧ c < 6) : 0 ≤ i + c ∧ i + c < (L : Int) := by omega
theorem rmo_1 {x a b n : Nat} (h : x + b ≤ n) (k : a ≤ b) : x + a ≤ n := by omega
theorem rmo_2 {x a c b n : Nat} (h : x + b ≤ n) (k : c + a ≤ b) : x + c + a ≤ n := by omega
theorem z_sld (X : AX k mn dT) (S : SX k b L xs) (hL : L ≤ 3072) {i : Int} (h : cdA mn pc = some (.iaload, 1, a, b0, z)) (hi : 0 ≤ i ∧ i < (L : Int)) (g : WS k (pc + 1) lv (.int (Int32.ofInt (sc xs i)) :: st) ws ce sl) : WS k pc lv (.int (Int32.ofInt i) :: .ref b :: st) ws ce sl := by
  have e : xs (Int32.ofInt i).toNatClampNeg = Int32.ofInt (sc xs i) := by
    rw [on_of hi.1, on_cl (by omega)]
    exact (ofi_to _).symm
  rw [on_of hi.1] at e ⊢
  refine w_sld X.1 S.1 S.2.1 S.2.2 (on_in (by omega) (by omega)) (ax_d X h) ?_
  rw [e]
  exact g
theorem z_slen (X : AX k mn dT) (S : SX k b L xs) (hL : L ≤ 3072) (h : cdA mn pc = some (.arraylength, 1, a, b0, z)) (g : WS k (pc + 1) lv (.int (Int32.ofInt (L : Int)) :: st) ws ce sl) : WS k pc lv (.ref b :: st) ws ce sl := by
  refine w_slen X.1 S.1 S.2.1 S.2.2 (ax_d X h) ?_
  have e : Int32.ofNat L = Int32.ofInt (L : Int) := by
    have h9 := on_of (z := (L : Int)) (by omega)
    have h8 : ((L : Int)).toNat = L := by omega
    rw [h8] at h9
    exact h9.symm
  rw [e]
  exact g
theorem z_lO {A : Nat → Nat} {s : PS} (X : AX k mn dT) (h : cdA mn pc = some (.laload, 1, 0, 0, 0)) (g : WS k (pc + 1) lv (.long (gD s 460 0) :: st) (Wd A dT s) ce sl) : WS k pc lv (.int (Int32.ofInt 0) :: .ref (A 517) :: st) (Wd A dT s) ce sl :=
  s_lald X 517 (n := 1) (a := 460) (i := 0) h (by decide) rfl (by decide) (by decide) g
theorem lcmp_0 {x y : Int64} : lg_cmp x y = 0 ↔ x = y := lg_cmp_eq x y
theorem z_lc {s : PS} {b : Int} (hb : rng b) (g : ∀ c : Int, rng c → ((c = 0 ∧ iO s = b) ∨ (c ≠ 0 ∧ iO s ≠ b)) → WS k pc lv (.int (Int32.ofInt c) :: st) ws ce sl) : WS k pc lv (.int (lg_cmp (gD s 460 0) (Int32.ofInt b).toInt64) :: st) ws ce sl := by
  have h9 := g (lg_cmp (gD s 460 0) (Int32.ofInt b).toInt64).toInt (rng_to _)
  rw [ofi_to] at h9
  refine h9 ?_
  have e1 : (Int32.ofInt b).toInt64.toInt = b := by rw [Int32.toInt_toInt64, zi hb]
  by_cases q : gD s 460 0 = (Int32.ofInt b).toInt64
  · refine Or.inl ⟨by rw [lcmp_0.mpr q]; rfl, ?_⟩
    show (gD s 460 0).toInt = b
    rw [q, e1]
  · refine Or.inr ⟨fun z => q (lcmp_0.mp (Int32.toInt_inj.mp (show _ = (0 : Int32).toInt from z))), fun z => q (Int64.toInt_inj.mp ?_)⟩
    rw [e1]
    exact z
end ZS
section M88
variable {l : Launch} {s0 : State} {D : va_G} {tys : List (ClassId × FieldType)} {a0 : Array Value} {A : Nat → Nat} {dT : Nat → ClassId} {s : PS}
theorem lc_0 (G : GX l s0 D tys a0 dT) (GR : RS0 s0) (SF : SF0 s0) (GT : TXs0 s0) {k : kx_T} (X : AX k 350 dT) (E : kL k = l ∧ kS0 k = s0 ∧ kD k = D ∧ kR k = room_1) {q1 L : Nat} {xs : Nat → Int32} (S : SX k q1 L xs) (hL : L ≤ 3072) (I : Bd s) (jR : RLx s) (jFEQ : FEQ s) (p1 : iI s 89 = 1) (p2 : iI s 12 ≤ 8) (p3 : iI s 0 = iI s 74) (p4 : iI s 9 = iI s 90) {i : Int} (hi : 0 ≤ i ∧ i + 6 ≤ (L : Int)) {ce sl : Nat} (hce : ce + 29 ≤ 601024) (hsl : sl + 222 ≤ 7293034) (hk : ∀ (A : Nat → Nat) (t : PS), Bd t → RLx t → FEQ t → iI t 89 = 1 → iI t 12 ≤ 8 → iI t 0 = iI t 74 → iI t 9 = iI t 90 → WS k 1877 [(0, .ref q1), (1, .ref (A 0)), (2, .ref (A 179)), (3, .ref (A 517)), (4, .int (Int32.ofInt i))] [] (Wd A dT t) (ce + 29) (sl + 222)) : WS k 232 [(0, .ref q1), (1, .ref (A 0)), (2, .ref (A 179)), (3, .ref (A 517)), (4, .int (Int32.ofInt i))] [] (Wd A dT s) ce sl := by
  have F : Fm [0, 73, 74] [0, 157] s s := fm_rf _ _ s
  have b1 := bi_0 I
  have b2 := bi_74 I
  have b3 := bi_9 I
  have b4 := bi_90 I
  have b5 := bi_12 I
  have b6 := bi_89 I
  refine z_aload_n X (x := A 0) rfl (List.Mem.tail _ (List.Mem.head _)) (z_aload_n X (x := q1) rfl (List.Mem.head _) (z_load X (x := i) rfl (List.Mem.tail _ (List.Mem.tail _ (List.Mem.tail _ (List.Mem.tail _ (List.Mem.head _))))) (z_const X rfl (z_add X rfl (z_sld X S hL rfl (show 0 ≤ (i + 1) ∧ (i + 1) < (L : Int) by first | exact sx_in hi (by decide) | omega) ?_)))))
  have sr7 : rng (sc xs (i + 1)) := sc_rng
  refine z_aload_n X (x := q1) rfl (List.Mem.head _) (z_load X (x := i) rfl (List.Mem.tail _ (List.Mem.tail _ (List.Mem.tail _ (List.Mem.tail _ (List.Mem.head _))))) (z_const X rfl (z_add X rfl (z_sld X S hL rfl (show 0 ≤ (i + 2) ∧ (i + 2) < (L : Int) by first | exact sx_in hi (by decide) | omega) ?_))))
  have sr8 : rng (sc xs (i + 2)) := sc_rng
  refine z_aload_n X (x := q1) rfl (List.Mem.head _) (z_load X (x := i) rfl (List.Mem.tail _ (List.Mem.tail _ (List.Mem.tail _ (List.Mem.tail _ (List.Mem.head _))))) (z_const X rfl (z_add X rfl (z_sld X S hL rfl (show 0 ≤ (i + 3) ∧ (i + 3) < (L : Int) by first | exact sx_in hi (by decide) | omega) ?_))))
  have sr9 : rng (sc xs (i + 3)) := sc_rng
  refine z_aload_n X (x := q1) rfl (List.Mem.head _) (z_load X (x := i) rfl (List.Mem.tail _ (List.Mem.tail _ (List.Mem.tail _ (List.Mem.tail _ (List.Mem.head _))))) (z_const X rfl (z_add X rfl (z_sld X S hL rfl (show 0 ≤ (i + 4) ∧ (i + 4) < (L : Int) by first | exact sx_in hi (by decide) | omega) ?_))))
  have sr10 : rng (sc xs (i + 4)) := sc_rng
  refine z_aload_n X (x := q1) rfl (List.Mem.head _) (z_load X (x := i) rfl (List.Mem.tail _ (List.Mem.tail _ (List.Mem.tail _ (List.Mem.tail _ (List.Mem.head _))))) (z_const X rfl (z_add X rfl (z_sld X S hL rfl (show 0 ≤ (i + 5) ∧ (i + 5) < (L : Int) by first | exact sx_in hi (by decide) | omega) ?_))))
  have sr11 : rng (sc xs (i + 5)) := sc_rng
  refine z_callV X 0 (rm := rmN 135) (As := [.int (Int32.ofInt (sc xs (i + 1))), .int (Int32.ofInt (sc xs (i + 2))), .int (Int32.ofInt (sc xs (i + 3))), .int (Int32.ofInt (sc xs (i + 4))), .int (Int32.ofInt (sc xs (i + 5)))]) (st := []) rfl rfl (by decide) rfl (by rw [E.1, E.2.1, E.2.2.1]; exact cs_feed2 G I (by first | exact ⟨sr7.1, sr7.2⟩ | omega) (by first | exact ⟨sr8.1, sr8.2⟩ | omega) (by first | exact ⟨sr9.1, sr9.2⟩ | omega) (by first | exact ⟨sr10.1, sr10.2⟩ | omega) (by first | exact ⟨sr11.1, sr11.2⟩ | omega)) ⟨by rw [E.2.2.2]; exact (show 8 + 1 ≤ 2048 from oq_5bf2829b), by rw [E.2.2.2]; exact (show 8 + (6 + 11) + 147 ≤ 84000 from oq_e23742ae), by rw [E.2.2.2]; exact (show ce + 0 ≤ 601024 by omega), by rw [E.2.2.2]; exact (show sl + 0 ≤ 7293034 by omega)⟩ (Nat.le_of_ble_eq_true rfl) (fun vv s12 hq => ?_) (fun ee s12 hq => ?_)
  rotate_left
  · obtain ⟨Is12, Fs12, e13, hv, hrs12, hps12⟩ := hq; cases hv
  obtain ⟨Is12, Fs12, e13, hv, hrs12, hps12⟩ := hq
  cases hv
  have Gs12 := fm_tq F Fs12 rfl rfl
  have JRLx_s12 : RLx s12 := RLx_fm Fs12 (by decide) jR
  have b14 := bi_0 Is12
  have ws12_74 : iI s12 74 = iI s 74 := fm_iq Fs12 rfl
  have ws12_9 : iI s12 9 = iI s 9 := fm_iq Fs12 rfl
  have ws12_90 : iI s12 90 = iI s 90 := fm_iq Fs12 rfl
  have ws12_12 : iI s12 12 = iI s 12 := fm_iq Fs12 rfl
  have ws12_89 : iI s12 89 = iI s 89 := fm_iq Fs12 rfl
  have wos12 : iO s12 = iO s := fm_o Fs12 (by decide)
  show WS k 266 [(0, .ref q1), (1, .ref (A 0)), (2, .ref (A 179)), (3, .ref (A 517)), (4, .int (Int32.ofInt i))] [.int (Int32.ofInt e13)] (Wd A dT s12) ce sl
  refine w_pop X.1 (ax_d X (show cdA 350 266 = some (.pop, 1, 0, 0, 0) from rfl)) rfl (z_aload_n X (x := A 179) rfl (List.Mem.tail _ (List.Mem.tail _ (List.Mem.head _))) (z_aload_n X (x := q1) rfl (List.Mem.head _) (z_load X (x := i) rfl (List.Mem.tail _ (List.Mem.tail _ (List.Mem.tail _ (List.Mem.tail _ (List.Mem.head _))))) (z_const X rfl (z_add X rfl (z_sld X S hL rfl (show 0 ≤ (i + 1) ∧ (i + 1) < (L : Int) by first | exact sx_in hi (by decide) | omega) ?_))))))
  have sr15 : rng (sc xs (i + 1)) := sc_rng
  refine z_aload_n X (x := q1) rfl (List.Mem.head _) (z_load X (x := i) rfl (List.Mem.tail _ (List.Mem.tail _ (List.Mem.tail _ (List.Mem.tail _ (List.Mem.head _))))) (z_const X rfl (z_add X rfl (z_sld X S hL rfl (show 0 ≤ (i + 2) ∧ (i + 2) < (L : Int) by first | exact sx_in hi (by decide) | omega) ?_))))
  have sr16 : rng (sc xs (i + 2)) := sc_rng
  refine z_aload_n X (x := q1) rfl (List.Mem.head _) (z_load X (x := i) rfl (List.Mem.tail _ (List.Mem.tail _ (List.Mem.tail _ (List.Mem.tail _ (List.Mem.head _))))) (z_const X rfl (z_add X rfl (z_sld X S hL rfl (show 0 ≤ (i + 3) ∧ (i + 3) < (L : Int) by first | exact sx_in hi (by decide) | omega) ?_))))
  have sr17 : rng (sc xs (i + 3)) := sc_rng
  refine z_aload_n X (x := q1) rfl (List.Mem.head _) (z_load X (x := i) rfl (List.Mem.tail _ (List.Mem.tail _ (List.Mem.tail _ (List.Mem.tail _ (List.Mem.head _))))) (z_const X rfl (z_add X rfl (z_sld X S hL rfl (show 0 ≤ (i + 4) ∧ (i + 4) < (L : Int) by first | exact sx_in hi (by decide) | omega) ?_))))
  have sr18 : rng (sc xs (i + 4)) := sc_rng
  refine z_aload_n X (x := q1) rfl (List.Mem.head _) (z_load X (x := i) rfl (List.Mem.tail _ (List.Mem.tail _ (List.Mem.tail _ (List.Mem.tail _ (List.Mem.head _))))) (z_const X rfl (z_add X rfl (z_sld X S hL rfl (show 0 ≤ (i + 5) ∧ (i + 5) < (L : Int) by first | exact sx_in hi (by decide) | omega) ?_))))
  have sr19 : rng (sc xs (i + 5)) := sc_rng
  refine z_callV X 179 (rm := rmN 191) (As := [.int (Int32.ofInt (sc xs (i + 1))), .int (Int32.ofInt (sc xs (i + 2))), .int (Int32.ofInt (sc xs (i + 3))), .int (Int32.ofInt (sc xs (i + 4))), .int (Int32.ofInt (sc xs (i + 5)))]) (st := []) rfl rfl (by decide) rfl (by rw [E.1, E.2.1, E.2.2.1]; exact k_feed2 G Is12 (by first | exact ⟨sr15.1, sr15.2⟩ | omega) (by first | exact ⟨sr16.1, sr16.2⟩ | omega) (by first | exact ⟨sr17.1, sr17.2⟩ | omega) (by first | exact ⟨sr18.1, sr18.2⟩ | omega) (by first | exact ⟨sr19.1, sr19.2⟩ | omega)) ⟨by rw [E.2.2.2]; exact (show 6 + 1 ≤ 2048 from oq_4d34cb53), by rw [E.2.2.2]; exact (show 8 + (8 + 11) + 100 ≤ 84000 from oq_e10754c2), by rw [E.2.2.2]; exact (show ce + 0 ≤ 601024 by first | (clear hps12; omega) | omega), by rw [E.2.2.2]; exact (show sl + 0 ≤ 7293034 by first | (clear hps12; omega) | omega)⟩ (Nat.le_of_ble_eq_true rfl) (fun vv s20 hq => ?_) (fun ee s20 hq => ?_)
  rotate_left
  · obtain ⟨Is20, Fs20, e21, hv, hrs20, hps20⟩ := hq; cases hv
  obtain ⟨Is20, Fs20, e21, hv, hrs20, hps20⟩ := hq
  cases hv
  have Gs20 := fm_tq Gs12 Fs20 rfl rfl
  have JRLx_s20 : RLx s20 := RLx_fm Fs20 (by decide) JRLx_s12
  have ws20_0 : iI s20 0 = iI s12 0 := fm_iq Fs20 rfl
  have b22 := bi_74 Is20
  have ws20_9 : iI s20 9 = iI s12 9 := fm_iq Fs20 rfl
  have ws20_90 : iI s20 90 = iI s12 90 := fm_iq Fs20 rfl
  have ws20_12 : iI s20 12 = iI s12 12 := fm_iq Fs20 rfl
  have ws20_89 : iI s20 89 = iI s12 89 := fm_iq Fs20 rfl
  have wos20 : iO s20 = iO s12 := fm_o Fs20 (by decide)
  show WS k 301 [(0, .ref q1), (1, .ref (A 0)), (2, .ref (A 179)), (3, .ref (A 517)), (4, .int (Int32.ofInt i))] [.int (Int32.ofInt e21)] (Wd A dT s20) ce sl
  rcases hps12 with cc | cc
  ·
    rcases hps20 with mm | mm
    ·
      have jq23 : FEQ s20 := feq_up jFEQ cc.2.2.2 (sam_fm Fs12 (by decide)) mm.2.2.2 (sam_fm Fs20 (by decide)) (by first | (clear hps20 hps12; omega) | (clear hps12; omega) | omega) (by first | (clear hps20 hps12; omega) | (clear hps12; omega) | omega)
      refine w_pop X.1 (ax_d X (show cdA 350 301 = some (.pop, 1, 0, 0, 0) from rfl)) rfl (z_goto X (t := 1877) rfl rfl (w_widen (ce' := ce + 29) (sl' := sl + 222) (by first | exact Nat.le_add_right _ _ | exact Nat.add_le_add_left (by decide) _ | omega) (by first | exact Nat.le_add_right _ _ | exact Nat.add_le_add_left (by decide) _ | omega) ?_))
      exact WS_lv (lv := [(0, .ref q1), (1, .ref (A 0)), (2, .ref (A 179)), (3, .ref (A 517)), (4, .int (Int32.ofInt i))]) (List.forall_mem_cons.mpr ⟨(List.Mem.head _), (List.forall_mem_cons.mpr ⟨(List.Mem.tail _ (List.Mem.head _)), (List.forall_mem_cons.mpr ⟨(List.Mem.tail _ (List.Mem.tail _ (List.Mem.head _))), (List.forall_mem_cons.mpr ⟨(List.Mem.tail _ (List.Mem.tail _ (List.Mem.tail _ (List.Mem.head _)))), (List.forall_mem_cons.mpr ⟨(List.Mem.tail _ (List.Mem.tail _ (List.Mem.tail _ (List.Mem.tail _ (List.Mem.head _))))), (fun q h => absurd h List.not_mem_nil)⟩)⟩)⟩)⟩)⟩) (hk A _ Is20 JRLx_s20 jq23 (by first | exact oq_f34933ba ws20_89 ws12_89 p1 b6.1 | omega) (by first | exact oq_d7ce4408 ws20_12 ws12_12 p2 | omega) (by first | (clear hps20 hps12; omega) | (clear hps12; omega) | omega) (by first | exact oq_5bcdc35f ws20_90 ws20_9 ws12_90 ws12_9 p4 | omega))
    ·
      exfalso
      omega
  ·
    rcases hps20 with mm | mm
    ·
      exfalso
      omega
    ·
      have jq24 : FEQ s20 := feq_sam jFEQ (sam_ts (sam_fm Fs12 (by decide)) mm.2.2.2) (sam_ts cc.2.2.2 (sam_fm Fs20 (by decide)))
      refine w_pop X.1 (ax_d X (show cdA 350 301 = some (.pop, 1, 0, 0, 0) from rfl)) rfl (z_goto X (t := 1877) rfl rfl (w_widen (ce' := ce + 29) (sl' := sl + 222) (by first | exact Nat.le_add_right _ _ | exact Nat.add_le_add_left (by decide) _ | omega) (by first | exact Nat.le_add_right _ _ | exact Nat.add_le_add_left (by decide) _ | omega) ?_))
      exact WS_lv (lv := [(0, .ref q1), (1, .ref (A 0)), (2, .ref (A 179)), (3, .ref (A 517)), (4, .int (Int32.ofInt i))]) (List.forall_mem_cons.mpr ⟨(List.Mem.head _), (List.forall_mem_cons.mpr ⟨(List.Mem.tail _ (List.Mem.head _)), (List.forall_mem_cons.mpr ⟨(List.Mem.tail _ (List.Mem.tail _ (List.Mem.head _))), (List.forall_mem_cons.mpr ⟨(List.Mem.tail _ (List.Mem.tail _ (List.Mem.tail _ (List.Mem.head _)))), (List.forall_mem_cons.mpr ⟨(List.Mem.tail _ (List.Mem.tail _ (List.Mem.tail _ (List.Mem.tail _ (List.Mem.head _))))), (fun q h => absurd h List.not_mem_nil)⟩)⟩)⟩)⟩)⟩) (hk A _ Is20 JRLx_s20 jq24 (by first | exact oq_f34933ba ws20_89 ws12_89 p1 b6.1 | omega) (by first | exact oq_d7ce4408 ws20_12 ws12_12 p2 | omega) (by first | (clear hps20 hps12; omega) | (clear hps12; omega) | omega) (by first | exact oq_5bcdc35f ws20_90 ws20_9 ws12_90 ws12_9 p4 | omega))
theorem lc_1 (G : GX l s0 D tys a0 dT) (GR : RS0 s0) (SF : SF0 s0) (GT : TXs0 s0) {k : kx_T} (X : AX k 350 dT) (E : kL k = l ∧ kS0 k = s0 ∧ kD k = D ∧ kR k = room_1) {q1 L : Nat} {xs : Nat → Int32} (S : SX k q1 L xs) (hL : L ≤ 3072) (I : Bd s) (jR : RLx s) (jFEQ : FEQ s) (p1 : iI s 89 = 1) (p2 : iI s 12 ≤ 8) (p3 : iI s 0 = iI s 74) (p4 : iI s 9 = iI s 90) {i : Int} (hi : 0 ≤ i ∧ i + 6 ≤ (L : Int)) {ce sl : Nat} (hce : ce + 29 ≤ 601024) (hsl : sl + 222 ≤ 7293034) (hk : ∀ (A : Nat → Nat) (t : PS), Bd t → RLx t → FEQ t → iI t 89 = 1 → iI t 12 ≤ 8 → iI t 0 = iI t 74 → iI t 9 = iI t 90 → WS k 1877 [(0, .ref q1), (1, .ref (A 0)), (2, .ref (A 179)), (3, .ref (A 517)), (4, .int (Int32.ofInt i))] [] (Wd A dT t) (ce + 29) (sl + 222)) : WS k 305 [(0, .ref q1), (1, .ref (A 0)), (2, .ref (A 179)), (3, .ref (A 517)), (4, .int (Int32.ofInt i))] [] (Wd A dT s) ce sl := by
  have F : Fm [11, 9, 10, 2, 4, 6, 5, 1, 3, 0, 7, 8, 73, 74, 76, 90, 91, 77, 75, 78, 79, 80, 81] [15, 1, 2, 6, 1003, 1004, 1005, 1007, 1460, 165, 162, 166, 167, 168, 169, 170, 171, 172, 173, 174, 175, 176, 177, 178, 179, 180, 181, 182, 183, 184, 185, 186, 187, 188, 189] s s := fm_rf _ _ s
  have b1 := bi_0 I
  have b2 := bi_74 I
  have b3 := bi_9 I
  have b4 := bi_90 I
  have b5 := bi_12 I
  have b6 := bi_89 I
  refine z_aload_n X (x := A 0) rfl (List.Mem.tail _ (List.Mem.head _)) (z_aload_n X (x := q1) rfl (List.Mem.head _) (z_load X (x := i) rfl (List.Mem.tail _ (List.Mem.tail _ (List.Mem.tail _ (List.Mem.tail _ (List.Mem.head _))))) (z_const X rfl (z_add X rfl (z_sld X S hL rfl (show 0 ≤ (i + 1) ∧ (i + 1) < (L : Int) by first | exact sx_in hi (by decide) | omega) ?_)))))
  have sr7 : rng (sc xs (i + 1)) := sc_rng
  refine z_aload_n X (x := A 517) rfl (List.Mem.tail _ (List.Mem.tail _ (List.Mem.tail _ (List.Mem.head _)))) (z_callL X (rm := rmN 314) (As := [.ref (A 0), .int (Int32.ofInt (sc xs (i + 1))), .ref (A 517)]) (st := []) rfl (by decide) rfl (by rw [E.1, E.2.1, E.2.2.1]; exact lw_stream2 (B := (fun i => iC s 0 i)) G I (fun _ _ => rfl) (by omega)) ⟨by rw [E.2.2.2]; exact (show 11 + 1 ≤ 2048 by decide), by rw [E.2.2.2]; exact (show 8 + (4 + 11) + 213 ≤ 84000 by decide), by rw [E.2.2.2]; exact (show ce + 1 ≤ 601024 by first | exact rmo_1 hce (by decide) | exact rmo_2 hce (by decide) | omega), by rw [E.2.2.2]; exact (show sl + 6 ≤ 7293034 by first | exact rmo_1 hsl (by decide) | exact rmo_2 hsl (by decide) | omega)⟩ (Nat.le_of_ble_eq_true rfl) (fun vv A s8 hA2 hq => ?_) (fun ee A s8 hA2 hq => ?_))
  rotate_left
  · obtain ⟨Is8, Fs8, e9, hv, hrs8, hps8⟩ := hq; cases hv
  obtain ⟨Is8, Fs8, e9, hv, hrs8, hps8⟩ := hq
  cases hv
  rw [← hA2 0 (by decide)]
  rw [← hA2 179 (by decide)]
  rw [← hA2 517 (by decide)]
  have Gs8 := fm_tq F Fs8 rfl rfl
  have JRLx_s8 : RLx s8 := RLx_fm Fs8 (by decide) jR
  have JFEQ_s8 : FEQ s8 := FEQ_fm Fs8 (by decide) jFEQ
  have JBYA_s8 : BYA (fun i => iC s 0 i) s8 := BYA_fm Fs8 (by decide) (fun _ _ => rfl)
  have b10 := bi_0 Is8
  have ws8_74 : iI s8 74 = iI s 74 := fm_iq Fs8 rfl
  have b11 := bi_9 Is8
  have ws8_90 : iI s8 90 = iI s 90 := fm_iq Fs8 rfl
  have ws8_12 : iI s8 12 = iI s 12 := fm_iq Fs8 rfl
  have ws8_89 : iI s8 89 = iI s 89 := fm_iq Fs8 rfl
  show WS k 316 [(0, .ref q1), (1, .ref (A 0)), (2, .ref (A 179)), (3, .ref (A 517)), (4, .int (Int32.ofInt i))] [.int (Int32.ofInt e9)] (Wd A dT s8) (ce + 1) (sl + 6)
  refine z_store X (lv' := [(5, .int (Int32.ofInt e9)), (0, .ref q1), (1, .ref (A 0)), (2, .ref (A 179)), (3, .ref (A 517)), (4, .int (Int32.ofInt i))]) rfl (by decide) (fun _ h => h) (z_aload_n X (x := A 179) rfl (List.Mem.tail _ (List.Mem.tail _ (List.Mem.tail _ (List.Mem.head _)))) (z_aload_n X (x := q1) rfl (List.Mem.tail _ (List.Mem.head _)) (z_load X (x := i) rfl (List.Mem.tail _ (List.Mem.tail _ (List.Mem.tail _ (List.Mem.tail _ (List.Mem.tail _ (List.Mem.head _)))))) (z_const X rfl (z_add X rfl (z_sld X S hL rfl (show 0 ≤ (i + 1) ∧ (i + 1) < (L : Int) by first | exact sx_in hi (by decide) | omega) ?_))))))
  have sr12 : rng (sc xs (i + 1)) := sc_rng
  have hFD : FDA (fun i => iC s 0 i) s8 := fun i hi => (JFEQ_s8 i hi).trans (fm_c Fs8 (by decide))
  refine z_callV X 179 (rm := rmN 200) (As := [.int (Int32.ofInt (sc xs (i + 1)))]) (st := []) rfl rfl (by decide) rfl (by rw [E.1, E.2.1, E.2.2.1]; exact k_stream2 (B := (fun i => iC s 0 i)) G Is8 JRLx_s8 hFD (by first | exact ⟨sr12.1, sr12.2⟩ | omega)) ⟨by rw [E.2.2.2]; exact (show 10 + 1 ≤ 2048 from oq_5655e407), by rw [E.2.2.2]; exact (show 8 + (3 + 11) + 191 ≤ 84000 from oq_0b5c09a5), by rw [E.2.2.2]; exact (show (ce + 1) + 0 ≤ 601024 by first | (clear hps8; omega) | omega), by rw [E.2.2.2]; exact (show (sl + 6) + 0 ≤ 7293034 by first | (clear hps8; omega) | omega)⟩ (Nat.le_of_ble_eq_true rfl) (fun vv s13 hq => ?_) (fun ee s13 hq => ?_)
  rotate_left
  · obtain ⟨Is13, Fs13, JRLx_s13, JFDA_s13, e14, hv, hrs13, hps13⟩ := hq; cases hv
  obtain ⟨Is13, Fs13, JRLx_s13, JFDA_s13, e14, hv, hrs13, hps13⟩ := hq
  cases hv
  have Gs13 := fm_tq Gs8 Fs13 rfl rfl
  have JFEQ_s13 : FEQ s13 := FEQ_fm Fs13 (by decide) JFEQ_s8
  have JFDA_s13 : FDA (fun i => iC s 0 i) s13 := FDA_fm Fs13 (by decide) hFD
  have ws13_0 : iI s13 0 = iI s8 0 := fm_iq Fs13 rfl
  have b15 := bi_74 Is13
  have ws13_9 : iI s13 9 = iI s8 9 := fm_iq Fs13 rfl
  have b16 := bi_90 Is13
  have ws13_12 : iI s13 12 = iI s8 12 := fm_iq Fs13 rfl
  have ws13_89 : iI s13 89 = iI s8 89 := fm_iq Fs13 rfl
  have wos13 : iO s13 = iO s8 := fm_o Fs13 (by decide)
  show WS k 328 [(5, .int (Int32.ofInt e9)), (0, .ref q1), (1, .ref (A 0)), (2, .ref (A 179)), (3, .ref (A 517)), (4, .int (Int32.ofInt i))] [.int (Int32.ofInt e14)] (Wd A dT s13) (ce + 1) (sl + 6)
  rcases hps8 with cc | cc
  ·
    rcases hps13 with mm | mm
    ·
      have rq17 := str_eq2 cc.2.2.2.2.2 mm.2 (by first | (clear hps13 hps8; omega) | (clear hps8; omega) | omega)
      refine z_store X (lv' := [(6, .int (Int32.ofInt e14)), (5, .int (Int32.ofInt e9)), (0, .ref q1), (1, .ref (A 0)), (2, .ref (A 179)), (3, .ref (A 517)), (4, .int (Int32.ofInt i))]) rfl (by decide) (fun _ h => h) (z_goto X (t := 1877) rfl rfl (w_widen (ce' := ce + 29) (sl' := sl + 222) (by first | exact Nat.le_add_right _ _ | exact Nat.add_le_add_left (by decide) _ | omega) (by first | exact Nat.le_add_right _ _ | exact Nat.add_le_add_left (by decide) _ | omega) ?_))
      exact WS_lv (lv := [(0, .ref q1), (1, .ref (A 0)), (2, .ref (A 179)), (3, .ref (A 517)), (4, .int (Int32.ofInt i))]) (List.forall_mem_cons.mpr ⟨(List.Mem.tail _ (List.Mem.tail _ (List.Mem.head _))), (List.forall_mem_cons.mpr ⟨(List.Mem.tail _ (List.Mem.tail _ (List.Mem.tail _ (List.Mem.head _)))), (List.forall_mem_cons.mpr ⟨(List.Mem.tail _ (List.Mem.tail _ (List.Mem.tail _ (List.Mem.tail _ (List.Mem.head _))))), (List.forall_mem_cons.mpr ⟨(List.Mem.tail _ (List.Mem.tail _ (List.Mem.tail _ (List.Mem.tail _ (List.Mem.tail _ (List.Mem.head _)))))), (List.forall_mem_cons.mpr ⟨(List.Mem.tail _ (List.Mem.tail _ (List.Mem.tail _ (List.Mem.tail _ (List.Mem.tail _ (List.Mem.tail _ (List.Mem.head _))))))), (fun q h => absurd h List.not_mem_nil)⟩)⟩)⟩)⟩)⟩) (hk A _ Is13 JRLx_s13 JFEQ_s13 (by first | exact oq_f34933ba ws13_89 ws8_89 p1 b6.1 | omega) (by first | exact oq_d7ce4408 ws13_12 ws8_12 p2 | omega) (by first | (clear hps13 hps8; omega) | (clear hps8; omega) | omega) (by first | (clear hps13 hps8; omega) | (clear hps8; omega) | omega))
    ·
      exfalso
      omega
  ·
    rcases hps13 with mm | mm
    ·
      exfalso
      omega
    ·
      refine z_store X (lv' := [(6, .int (Int32.ofInt e14)), (5, .int (Int32.ofInt e9)), (0, .ref q1), (1, .ref (A 0)), (2, .ref (A 179)), (3, .ref (A 517)), (4, .int (Int32.ofInt i))]) rfl (by decide) (fun _ h => h) (z_goto X (t := 1877) rfl rfl (w_widen (ce' := ce + 29) (sl' := sl + 222) (by first | exact Nat.le_add_right _ _ | exact Nat.add_le_add_left (by decide) _ | omega) (by first | exact Nat.le_add_right _ _ | exact Nat.add_le_add_left (by decide) _ | omega) ?_))
      exact WS_lv (lv := [(0, .ref q1), (1, .ref (A 0)), (2, .ref (A 179)), (3, .ref (A 517)), (4, .int (Int32.ofInt i))]) (List.forall_mem_cons.mpr ⟨(List.Mem.tail _ (List.Mem.tail _ (List.Mem.head _))), (List.forall_mem_cons.mpr ⟨(List.Mem.tail _ (List.Mem.tail _ (List.Mem.tail _ (List.Mem.head _)))), (List.forall_mem_cons.mpr ⟨(List.Mem.tail _ (List.Mem.tail _ (List.Mem.tail _ (List.Mem.tail _ (List.Mem.head _))))), (List.forall_mem_cons.mpr ⟨(List.Mem.tail _ (List.Mem.tail _ (List.Mem.tail _ (List.Mem.tail _ (List.Mem.tail _ (List.Mem.head _)))))), (List.forall_mem_cons.mpr ⟨(List.Mem.tail _ (List.Mem.tail _ (List.Mem.tail _ (List.Mem.tail _ (List.Mem.tail _ (List.Mem.tail _ (List.Mem.head _))))))), (fun q h => absurd h List.not_mem_nil)⟩)⟩)⟩)⟩)⟩) (hk A _ Is13 JRLx_s13 JFEQ_s13 (by first | exact oq_f34933ba ws13_89 ws8_89 p1 b6.1 | omega) (by first | exact oq_d7ce4408 ws13_12 ws8_12 p2 | omega) (by first | (clear hps13 hps8; omega) | (clear hps8; omega) | omega) (by first | (clear hps13 hps8; omega) | (clear hps8; omega) | omega))
theorem lc_2 (G : GX l s0 D tys a0 dT) (GR : RS0 s0) (SF : SF0 s0) (GT : TXs0 s0) {k : kx_T} (X : AX k 350 dT) (E : kL k = l ∧ kS0 k = s0 ∧ kD k = D ∧ kR k = room_1) {q1 L : Nat} {xs : Nat → Int32} (S : SX k q1 L xs) (hL : L ≤ 3072) (I : Bd s) (jR : RLx s) (jFEQ : FEQ s) (p1 : iI s 89 = 1) (p2 : iI s 12 ≤ 8) (p3 : iI s 0 = iI s 74) (p4 : iI s 9 = iI s 90) {i : Int} (hi : 0 ≤ i ∧ i + 6 ≤ (L : Int)) {ce sl : Nat} (hce : ce + 29 ≤ 601024) (hsl : sl + 222 ≤ 7293034) (hk : ∀ (A : Nat → Nat) (t : PS), Bd t → RLx t → FEQ t → iI t 89 = 1 → iI t 12 ≤ 8 → iI t 0 = iI t 74 → iI t 9 = iI t 90 → WS k 1877 [(0, .ref q1), (1, .ref (A 0)), (2, .ref (A 179)), (3, .ref (A 517)), (4, .int (Int32.ofInt i))] [] (Wd A dT t) (ce + 29) (sl + 222)) : WS k 333 [(0, .ref q1), (1, .ref (A 0)), (2, .ref (A 179)), (3, .ref (A 517)), (4, .int (Int32.ofInt i))] [] (Wd A dT s) ce sl := by
  have F : Fm [2, 4, 6, 5, 7, 8, 19, 16, 17, 18, 12, 13, 14, 15, 1, 3, 0, 73, 74, 76, 82, 83, 84, 85, 77, 75, 78, 79, 80, 81, 86, 87, 88] [16, 17, 18, 19, 1460, 160, 159, 158] s s := fm_rf _ _ s
  have b1 := bi_0 I
  have b2 := bi_74 I
  have b3 := bi_9 I
  have b4 := bi_90 I
  have b5 := bi_12 I
  have b6 := bi_89 I
  refine z_aload_n X (x := A 0) rfl (List.Mem.tail _ (List.Mem.head _)) (z_aload_n X (x := q1) rfl (List.Mem.head _) (z_load X (x := i) rfl (List.Mem.tail _ (List.Mem.tail _ (List.Mem.tail _ (List.Mem.tail _ (List.Mem.head _))))) (z_const X rfl (z_add X rfl (z_sld X S hL rfl (show 0 ≤ (i + 1) ∧ (i + 1) < (L : Int) by first | exact sx_in hi (by decide) | omega) ?_)))))
  have sr7 : rng (sc xs (i + 1)) := sc_rng
  refine z_aload_n X (x := A 517) rfl (List.Mem.tail _ (List.Mem.tail _ (List.Mem.tail _ (List.Mem.head _)))) (z_callL X (rm := rmN 315) (As := [.ref (A 0), .int (Int32.ofInt (sc xs (i + 1))), .ref (A 517)]) (st := []) rfl (by decide) rfl (by rw [E.1, E.2.1, E.2.2.1]; exact lw_rules G SF GT I (by omega) (by omega)) ⟨by rw [E.2.2.2]; exact (show 71 + 1 ≤ 2048 by decide), by rw [E.2.2.2]; exact (show 8 + (4 + 11) + 3060 ≤ 84000 by decide), by rw [E.2.2.2]; exact (show ce + 1 ≤ 601024 by first | exact rmo_1 hce (by decide) | exact rmo_2 hce (by decide) | omega), by rw [E.2.2.2]; exact (show sl + 6 ≤ 7293034 by first | exact rmo_1 hsl (by decide) | exact rmo_2 hsl (by decide) | omega)⟩ (Nat.le_of_ble_eq_true rfl) (fun vv A s8 hA2 hq => ?_) (fun ee A s8 hA2 hq => ?_))
  rotate_left
  · obtain ⟨Is8, Fs8, e9, hv, hrs8, hps8⟩ := hq; cases hv
  obtain ⟨Is8, Fs8, e9, hv, hrs8, hps8⟩ := hq
  have hps8p := hps8.2
  cases hv
  rw [← hA2 0 (by decide)]
  rw [← hA2 179 (by decide)]
  rw [← hA2 517 (by decide)]
  have Gs8 := fm_tq F Fs8 rfl rfl
  have JRLx_s8 : RLx s8 := RLx_fm Fs8 (by decide) jR
  have JFEQ_s8 : FEQ s8 := FEQ_fm Fs8 (by decide) jFEQ
  have b10 := bi_0 Is8
  have ws8_74 : iI s8 74 = iI s 74 := fm_iq Fs8 rfl
  have ws8_9 : iI s8 9 = iI s 9 := fm_iq Fs8 rfl
  have ws8_90 : iI s8 90 = iI s 90 := fm_iq Fs8 rfl
  have b11 := bi_12 Is8
  have ws8_89 : iI s8 89 = iI s 89 := fm_iq Fs8 rfl
  show WS k 344 [(0, .ref q1), (1, .ref (A 0)), (2, .ref (A 179)), (3, .ref (A 517)), (4, .int (Int32.ofInt i))] [.int (Int32.ofInt e9)] (Wd A dT s8) (ce + 1) (sl + 6)
  refine z_store X (lv' := [(5, .int (Int32.ofInt e9)), (0, .ref q1), (1, .ref (A 0)), (2, .ref (A 179)), (3, .ref (A 517)), (4, .int (Int32.ofInt i))]) rfl (by decide) (fun _ h => h) (z_aload_n X (x := A 179) rfl (List.Mem.tail _ (List.Mem.tail _ (List.Mem.tail _ (List.Mem.head _)))) (z_aload_n X (x := q1) rfl (List.Mem.tail _ (List.Mem.head _)) (z_load X (x := i) rfl (List.Mem.tail _ (List.Mem.tail _ (List.Mem.tail _ (List.Mem.tail _ (List.Mem.tail _ (List.Mem.head _)))))) (z_const X rfl (z_add X rfl (z_sld X S hL rfl (show 0 ≤ (i + 1) ∧ (i + 1) < (L : Int) by first | exact sx_in hi (by decide) | omega) ?_))))))
  have sr12 : rng (sc xs (i + 1)) := sc_rng
  refine z_callV X 179 (rm := rmN 214) (As := [.int (Int32.ofInt (sc xs (i + 1)))]) (st := []) rfl rfl (by decide) rfl (by rw [E.1, E.2.1, E.2.2.1]; exact k_rules G Is8 (by first | exact ⟨sr12.1, sr12.2⟩ | omega)) ⟨by rw [E.2.2.2]; exact (show 61 + 1 ≤ 2048 from oq_0ed3bd18), by rw [E.2.2.2]; exact (show 8 + (3 + 11) + 2660 ≤ 84000 from oq_735d5381), by rw [E.2.2.2]; exact (show (ce + 1) + 0 ≤ 601024 by first | (clear hps8; omega) | omega), by rw [E.2.2.2]; exact (show (sl + 6) + 0 ≤ 7293034 by first | (clear hps8; omega) | omega)⟩ (Nat.le_of_ble_eq_true rfl) (fun vv s13 hq => ?_) (fun ee s13 hq => ?_)
  rotate_left
  · obtain ⟨Is13, Fs13, e14, hv, hrs13, hps13⟩ := hq; cases hv
  obtain ⟨Is13, Fs13, e14, hv, hrs13, hps13⟩ := hq
  cases hv
  have Gs13 := fm_tq Gs8 Fs13 rfl rfl
  have JRLx_s13 : RLx s13 := RLx_fm Fs13 (by decide) JRLx_s8
  have JFEQ_s13 : FEQ s13 := FEQ_fm Fs13 (by decide) JFEQ_s8
  have ws13_0 : iI s13 0 = iI s8 0 := fm_iq Fs13 rfl
  have b15 := bi_74 Is13
  have ws13_9 : iI s13 9 = iI s8 9 := fm_iq Fs13 rfl
  have ws13_90 : iI s13 90 = iI s8 90 := fm_iq Fs13 rfl
  have ws13_12 : iI s13 12 = iI s8 12 := fm_iq Fs13 rfl
  have ws13_89 : iI s13 89 = iI s8 89 := fm_iq Fs13 rfl
  have wos13 : iO s13 = iO s8 := fm_o Fs13 (by decide)
  show WS k 356 [(5, .int (Int32.ofInt e9)), (0, .ref q1), (1, .ref (A 0)), (2, .ref (A 179)), (3, .ref (A 517)), (4, .int (Int32.ofInt i))] [.int (Int32.ofInt e14)] (Wd A dT s13) (ce + 1) (sl + 6)
  refine z_store X (lv' := [(6, .int (Int32.ofInt e14)), (5, .int (Int32.ofInt e9)), (0, .ref q1), (1, .ref (A 0)), (2, .ref (A 179)), (3, .ref (A 517)), (4, .int (Int32.ofInt i))]) rfl (by decide) (fun _ h => h) (z_goto X (t := 1877) rfl rfl (w_widen (ce' := ce + 29) (sl' := sl + 222) (by first | exact Nat.le_add_right _ _ | exact Nat.add_le_add_left (by decide) _ | omega) (by first | exact Nat.le_add_right _ _ | exact Nat.add_le_add_left (by decide) _ | omega) ?_))
  exact WS_lv (lv := [(0, .ref q1), (1, .ref (A 0)), (2, .ref (A 179)), (3, .ref (A 517)), (4, .int (Int32.ofInt i))]) (List.forall_mem_cons.mpr ⟨(List.Mem.tail _ (List.Mem.tail _ (List.Mem.head _))), (List.forall_mem_cons.mpr ⟨(List.Mem.tail _ (List.Mem.tail _ (List.Mem.tail _ (List.Mem.head _)))), (List.forall_mem_cons.mpr ⟨(List.Mem.tail _ (List.Mem.tail _ (List.Mem.tail _ (List.Mem.tail _ (List.Mem.head _))))), (List.forall_mem_cons.mpr ⟨(List.Mem.tail _ (List.Mem.tail _ (List.Mem.tail _ (List.Mem.tail _ (List.Mem.tail _ (List.Mem.head _)))))), (List.forall_mem_cons.mpr ⟨(List.Mem.tail _ (List.Mem.tail _ (List.Mem.tail _ (List.Mem.tail _ (List.Mem.tail _ (List.Mem.tail _ (List.Mem.head _))))))), (fun q h => absurd h List.not_mem_nil)⟩)⟩)⟩)⟩)⟩) (hk A _ Is13 JRLx_s13 JFEQ_s13 (by first | exact oq_f34933ba ws13_89 ws8_89 p1 b6.1 | omega) (by first | exact oq_86ef0b17 ws13_12 hps8.2 | omega) (by first | exact oq_fe6fba7f b15.1 ws13_0 hps13 hps8.1 ws8_74 b10.1 p3 | omega) (by first | exact oq_5bcdc35f ws13_90 ws13_9 ws8_90 ws8_9 p4 | omega))
theorem lc_3 (G : GX l s0 D tys a0 dT) (GR : RS0 s0) (SF : SF0 s0) (GT : TXs0 s0) {k : kx_T} (X : AX k 350 dT) (E : kL k = l ∧ kS0 k = s0 ∧ kD k = D ∧ kR k = room_1) {q1 L : Nat} {xs : Nat → Int32} (S : SX k q1 L xs) (hL : L ≤ 3072) (I : Bd s) (jR : RLx s) (jFEQ : FEQ s) (p1 : iI s 89 = 1) (p2 : iI s 12 ≤ 8) (p3 : iI s 0 = iI s 74) (p4 : iI s 9 = iI s 90) {i : Int} (hi : 0 ≤ i ∧ i + 6 ≤ (L : Int)) {ce sl : Nat} (hce : ce + 29 ≤ 601024) (hsl : sl + 222 ≤ 7293034) (hk : ∀ (A : Nat → Nat) (t : PS), Bd t → RLx t → FEQ t → iI t 89 = 1 → iI t 12 ≤ 8 → iI t 0 = iI t 74 → iI t 9 = iI t 90 → WS k 1877 [(0, .ref q1), (1, .ref (A 0)), (2, .ref (A 179)), (3, .ref (A 517)), (4, .int (Int32.ofInt i))] [] (Wd A dT t) (ce + 29) (sl + 222)) : WS k 361 [(0, .ref q1), (1, .ref (A 0)), (2, .ref (A 179)), (3, .ref (A 517)), (4, .int (Int32.ofInt i))] [] (Wd A dT s) ce sl := by
  have F : Fm [73] [] s s := fm_rf _ _ s
  have b1 := bi_0 I
  have b2 := bi_74 I
  have b3 := bi_9 I
  have b4 := bi_90 I
  have b5 := bi_12 I
  have b6 := bi_89 I
  refine z_aload_n X (x := A 0) rfl (List.Mem.tail _ (List.Mem.head _)) (z_callV X 0 (rm := rmN 138) (As := []) (st := []) rfl rfl (by decide) rfl (by rw [E.1, E.2.1, E.2.2.1]; exact cs_fault G I ) ⟨by rw [E.2.2.2]; exact (show 6 + 1 ≤ 2048 from oq_4d34cb53), by rw [E.2.2.2]; exact (show 8 + (1 + 11) + 100 ≤ 84000 from oq_a32dccc4), by rw [E.2.2.2]; exact (show ce + 0 ≤ 601024 by omega), by rw [E.2.2.2]; exact (show sl + 0 ≤ 7293034 by omega)⟩ (Nat.le_of_ble_eq_true rfl) (fun vv s7 hq => ?_) (fun ee s7 hq => ?_))
  rotate_left
  · obtain ⟨Is7, Fs7, e8, hv, hrs7, hps7⟩ := hq; cases hv
  obtain ⟨Is7, Fs7, e8, hv, hrs7, hps7⟩ := hq
  cases hv
  have Gs7 := fm_tq F Fs7 rfl rfl
  have JRLx_s7 : RLx s7 := RLx_fm Fs7 (by decide) jR
  have JFEQ_s7 : FEQ s7 := FEQ_fm Fs7 (by decide) jFEQ
  have ws7_0 : iI s7 0 = iI s 0 := fm_iq Fs7 rfl
  have ws7_74 : iI s7 74 = iI s 74 := fm_iq Fs7 rfl
  have ws7_9 : iI s7 9 = iI s 9 := fm_iq Fs7 rfl
  have ws7_90 : iI s7 90 = iI s 90 := fm_iq Fs7 rfl
  have ws7_12 : iI s7 12 = iI s 12 := fm_iq Fs7 rfl
  have ws7_89 : iI s7 89 = iI s 89 := fm_iq Fs7 rfl
  have wos7 : iO s7 = iO s := fm_o Fs7 (by decide)
  show WS k 365 [(0, .ref q1), (1, .ref (A 0)), (2, .ref (A 179)), (3, .ref (A 517)), (4, .int (Int32.ofInt i))] [.int (Int32.ofInt e8)] (Wd A dT s7) ce sl
  refine w_pop X.1 (ax_d X (show cdA 350 365 = some (.pop, 1, 0, 0, 0) from rfl)) rfl (z_aload_n X (x := A 179) rfl (List.Mem.tail _ (List.Mem.tail _ (List.Mem.head _))) (z_callV X 179 (rm := rmN 215) (As := []) (st := []) rfl rfl (by decide) rfl (by rw [E.1, E.2.1, E.2.2.1]; exact k_fault G Is7 ) ⟨by rw [E.2.2.2]; exact (show 6 + 1 ≤ 2048 from oq_4d34cb53), by rw [E.2.2.2]; exact (show 8 + (1 + 11) + 100 ≤ 84000 from oq_a32dccc4), by rw [E.2.2.2]; exact (show ce + 0 ≤ 601024 by omega), by rw [E.2.2.2]; exact (show sl + 0 ≤ 7293034 by omega)⟩ (Nat.le_of_ble_eq_true rfl) (fun vv s9 hq => ?_) (fun ee s9 hq => ?_)))
  rotate_left
  · obtain ⟨Is9, Fs9, e10, hv, hrs9, hps9⟩ := hq; cases hv
  obtain ⟨Is9, Fs9, e10, hv, hrs9, hps9⟩ := hq
  cases hv
  have Gs9 := fm_tq Gs7 Fs9 rfl rfl
  have JRLx_s9 : RLx s9 := RLx_fm Fs9 (by decide) JRLx_s7
  have JFEQ_s9 : FEQ s9 := FEQ_fm Fs9 (by decide) JFEQ_s7
  have ws9_0 : iI s9 0 = iI s7 0 := fm_iq Fs9 rfl
  have ws9_74 : iI s9 74 = iI s7 74 := fm_iq Fs9 rfl
  have ws9_9 : iI s9 9 = iI s7 9 := fm_iq Fs9 rfl
  have ws9_90 : iI s9 90 = iI s7 90 := fm_iq Fs9 rfl
  have ws9_12 : iI s9 12 = iI s7 12 := fm_iq Fs9 rfl
  have ws9_89 : iI s9 89 = iI s7 89 := fm_iq Fs9 rfl
  have wos9 : iO s9 = iO s7 := fm_o Fs9 (by decide)
  show WS k 370 [(0, .ref q1), (1, .ref (A 0)), (2, .ref (A 179)), (3, .ref (A 517)), (4, .int (Int32.ofInt i))] [.int (Int32.ofInt e10)] (Wd A dT s9) ce sl
  refine w_pop X.1 (ax_d X (show cdA 350 370 = some (.pop, 1, 0, 0, 0) from rfl)) rfl (z_goto X (t := 1877) rfl rfl (w_widen (ce' := ce + 29) (sl' := sl + 222) (by first | exact Nat.le_add_right _ _ | exact Nat.add_le_add_left (by decide) _ | omega) (by first | exact Nat.le_add_right _ _ | exact Nat.add_le_add_left (by decide) _ | omega) ?_))
  exact WS_lv (lv := [(0, .ref q1), (1, .ref (A 0)), (2, .ref (A 179)), (3, .ref (A 517)), (4, .int (Int32.ofInt i))]) (List.forall_mem_cons.mpr ⟨(List.Mem.head _), (List.forall_mem_cons.mpr ⟨(List.Mem.tail _ (List.Mem.head _)), (List.forall_mem_cons.mpr ⟨(List.Mem.tail _ (List.Mem.tail _ (List.Mem.head _))), (List.forall_mem_cons.mpr ⟨(List.Mem.tail _ (List.Mem.tail _ (List.Mem.tail _ (List.Mem.head _)))), (List.forall_mem_cons.mpr ⟨(List.Mem.tail _ (List.Mem.tail _ (List.Mem.tail _ (List.Mem.tail _ (List.Mem.head _))))), (fun q h => absurd h List.not_mem_nil)⟩)⟩)⟩)⟩)⟩) (hk A _ Is9 JRLx_s9 JFEQ_s9 (by first | exact oq_f34933ba ws9_89 ws7_89 p1 b6.1 | omega) (by first | exact oq_d7ce4408 ws9_12 ws7_12 p2 | omega) (by first | exact oq_5bcdc35f ws9_74 ws9_0 ws7_74 ws7_0 p3 | omega) (by first | exact oq_5bcdc35f ws9_90 ws9_9 ws7_90 ws7_9 p4 | omega))
theorem lc_4 (G : GX l s0 D tys a0 dT) (GR : RS0 s0) (SF : SF0 s0) (GT : TXs0 s0) {k : kx_T} (X : AX k 350 dT) (E : kL k = l ∧ kS0 k = s0 ∧ kD k = D ∧ kR k = room_1) {q1 L : Nat} {xs : Nat → Int32} (S : SX k q1 L xs) (hL : L ≤ 3072) (I : Bd s) (jR : RLx s) (jFEQ : FEQ s) (p1 : iI s 89 = 1) (p2 : iI s 12 ≤ 8) (p3 : iI s 0 = iI s 74) (p4 : iI s 9 = iI s 90) {i : Int} (hi : 0 ≤ i ∧ i + 6 ≤ (L : Int)) {ce sl : Nat} (hce : ce + 29 ≤ 601024) (hsl : sl + 222 ≤ 7293034) (hk : ∀ (A : Nat → Nat) (t : PS), Bd t → RLx t → FEQ t → iI t 89 = 1 → iI t 12 ≤ 8 → iI t 0 = iI t 74 → iI t 9 = iI t 90 → WS k 1877 [(0, .ref q1), (1, .ref (A 0)), (2, .ref (A 179)), (3, .ref (A 517)), (4, .int (Int32.ofInt i))] [] (Wd A dT t) (ce + 29) (sl + 222)) : WS k 374 [(0, .ref q1), (1, .ref (A 0)), (2, .ref (A 179)), (3, .ref (A 517)), (4, .int (Int32.ofInt i))] [] (Wd A dT s) ce sl := by
  have F : Fm [73] [1460] s s := fm_rf _ _ s
  have b1 := bi_0 I
  have b2 := bi_74 I
  have b3 := bi_9 I
  have b4 := bi_90 I
  have b5 := bi_12 I
  have b6 := bi_89 I
  refine z_aload_n X (x := A 0) rfl (List.Mem.tail _ (List.Mem.head _)) (z_aload_n X (x := q1) rfl (List.Mem.head _) (z_load X (x := i) rfl (List.Mem.tail _ (List.Mem.tail _ (List.Mem.tail _ (List.Mem.tail _ (List.Mem.head _))))) (z_const X rfl (z_add X rfl (z_sld X S hL rfl (show 0 ≤ (i + 1) ∧ (i + 1) < (L : Int) by first | exact sx_in hi (by decide) | omega) ?_)))))
  have sr7 : rng (sc xs (i + 1)) := sc_rng
  refine z_aload_n X (x := q1) rfl (List.Mem.head _) (z_load X (x := i) rfl (List.Mem.tail _ (List.Mem.tail _ (List.Mem.tail _ (List.Mem.tail _ (List.Mem.head _))))) (z_const X rfl (z_add X rfl (z_sld X S hL rfl (show 0 ≤ (i + 2) ∧ (i + 2) < (L : Int) by first | exact sx_in hi (by decide) | omega) ?_))))
  have sr8 : rng (sc xs (i + 2)) := sc_rng
  refine z_aload_n X (x := A 517) rfl (List.Mem.tail _ (List.Mem.tail _ (List.Mem.tail _ (List.Mem.head _)))) (z_callL X (rm := rmN 316) (As := [.ref (A 0), .int (Int32.ofInt (sc xs (i + 1))), .int (Int32.ofInt (sc xs (i + 2))), .ref (A 517)]) (st := []) rfl (by decide) rfl (by rw [E.1, E.2.1, E.2.2.1]; exact lw_way G I (by omega) (by omega)) ⟨by rw [E.2.2.2]; exact (show 8 + 1 ≤ 2048 by decide), by rw [E.2.2.2]; exact (show 8 + (5 + 11) + 144 ≤ 84000 by decide), by rw [E.2.2.2]; exact (show ce + 1 ≤ 601024 by first | exact rmo_1 hce (by decide) | exact rmo_2 hce (by decide) | omega), by rw [E.2.2.2]; exact (show sl + 6 ≤ 7293034 by first | exact rmo_1 hsl (by decide) | exact rmo_2 hsl (by decide) | omega)⟩ (Nat.le_of_ble_eq_true rfl) (fun vv A s9 hA2 hq => ?_) (fun ee A s9 hA2 hq => ?_))
  rotate_left
  · obtain ⟨Is9, Fs9, e10, hv, hrs9, hps9⟩ := hq; cases hv
  obtain ⟨Is9, Fs9, e10, hv, hrs9, hps9⟩ := hq
  cases hv
  rw [← hA2 0 (by decide)]
  rw [← hA2 179 (by decide)]
  rw [← hA2 517 (by decide)]
  have Gs9 := fm_tq F Fs9 rfl rfl
  have JRLx_s9 : RLx s9 := RLx_fm Fs9 (by decide) jR
  have JFEQ_s9 : FEQ s9 := FEQ_fm Fs9 (by decide) jFEQ
  have ws9_0 : iI s9 0 = iI s 0 := fm_iq Fs9 rfl
  have ws9_74 : iI s9 74 = iI s 74 := fm_iq Fs9 rfl
  have ws9_9 : iI s9 9 = iI s 9 := fm_iq Fs9 rfl
  have ws9_90 : iI s9 90 = iI s 90 := fm_iq Fs9 rfl
  have ws9_12 : iI s9 12 = iI s 12 := fm_iq Fs9 rfl
  have ws9_89 : iI s9 89 = iI s 89 := fm_iq Fs9 rfl
  show WS k 391 [(0, .ref q1), (1, .ref (A 0)), (2, .ref (A 179)), (3, .ref (A 517)), (4, .int (Int32.ofInt i))] [.int (Int32.ofInt e10)] (Wd A dT s9) (ce + 1) (sl + 6)
  refine z_store X (lv' := [(5, .int (Int32.ofInt e10)), (0, .ref q1), (1, .ref (A 0)), (2, .ref (A 179)), (3, .ref (A 517)), (4, .int (Int32.ofInt i))]) rfl (by decide) (fun _ h => h) (z_aload_n X (x := A 179) rfl (List.Mem.tail _ (List.Mem.tail _ (List.Mem.tail _ (List.Mem.head _)))) (z_aload_n X (x := q1) rfl (List.Mem.tail _ (List.Mem.head _)) (z_load X (x := i) rfl (List.Mem.tail _ (List.Mem.tail _ (List.Mem.tail _ (List.Mem.tail _ (List.Mem.tail _ (List.Mem.head _)))))) (z_const X rfl (z_add X rfl (z_sld X S hL rfl (show 0 ≤ (i + 1) ∧ (i + 1) < (L : Int) by first | exact sx_in hi (by decide) | omega) ?_))))))
  have sr11 : rng (sc xs (i + 1)) := sc_rng
  refine z_aload_n X (x := q1) rfl (List.Mem.tail _ (List.Mem.head _)) (z_load X (x := i) rfl (List.Mem.tail _ (List.Mem.tail _ (List.Mem.tail _ (List.Mem.tail _ (List.Mem.tail _ (List.Mem.head _)))))) (z_const X rfl (z_add X rfl (z_sld X S hL rfl (show 0 ≤ (i + 2) ∧ (i + 2) < (L : Int) by first | exact sx_in hi (by decide) | omega) ?_))))
  have sr12 : rng (sc xs (i + 2)) := sc_rng
  refine z_callV X 179 (rm := rmN 217) (As := [.int (Int32.ofInt (sc xs (i + 1))), .int (Int32.ofInt (sc xs (i + 2)))]) (st := []) rfl rfl (by decide) rfl (by rw [E.1, E.2.1, E.2.2.1]; exact k_way G Is9 (by first | exact ⟨sr11.1, sr11.2⟩ | omega) (by first | exact ⟨sr12.1, sr12.2⟩ | omega)) ⟨by rw [E.2.2.2]; exact (show 7 + 1 ≤ 2048 from oq_4e6106eb), by rw [E.2.2.2]; exact (show 8 + (3 + 11) + 122 ≤ 84000 from oq_38d194b9), by rw [E.2.2.2]; exact (show (ce + 1) + 0 ≤ 601024 by omega), by rw [E.2.2.2]; exact (show (sl + 6) + 0 ≤ 7293034 by omega)⟩ (Nat.le_of_ble_eq_true rfl) (fun vv s13 hq => ?_) (fun ee s13 hq => ?_)
  rotate_left
  · obtain ⟨Is13, Fs13, e14, hv, hrs13, hps13⟩ := hq; cases hv
  obtain ⟨Is13, Fs13, e14, hv, hrs13, hps13⟩ := hq
  cases hv
  have Gs13 := fm_tq Gs9 Fs13 rfl rfl
  have JRLx_s13 : RLx s13 := RLx_fm Fs13 (by decide) JRLx_s9
  have JFEQ_s13 : FEQ s13 := FEQ_fm Fs13 (by decide) JFEQ_s9
  have ws13_0 : iI s13 0 = iI s9 0 := fm_iq Fs13 rfl
  have ws13_74 : iI s13 74 = iI s9 74 := fm_iq Fs13 rfl
  have ws13_9 : iI s13 9 = iI s9 9 := fm_iq Fs13 rfl
  have ws13_90 : iI s13 90 = iI s9 90 := fm_iq Fs13 rfl
  have ws13_12 : iI s13 12 = iI s9 12 := fm_iq Fs13 rfl
  have ws13_89 : iI s13 89 = iI s9 89 := fm_iq Fs13 rfl
  have wos13 : iO s13 = iO s9 := fm_o Fs13 (by decide)
  show WS k 409 [(5, .int (Int32.ofInt e10)), (0, .ref q1), (1, .ref (A 0)), (2, .ref (A 179)), (3, .ref (A 517)), (4, .int (Int32.ofInt i))] [.int (Int32.ofInt e14)] (Wd A dT s13) (ce + 1) (sl + 6)
  refine z_store X (lv' := [(6, .int (Int32.ofInt e14)), (5, .int (Int32.ofInt e10)), (0, .ref q1), (1, .ref (A 0)), (2, .ref (A 179)), (3, .ref (A 517)), (4, .int (Int32.ofInt i))]) rfl (by decide) (fun _ h => h) (z_goto X (t := 1877) rfl rfl (w_widen (ce' := ce + 29) (sl' := sl + 222) (by first | exact Nat.le_add_right _ _ | exact Nat.add_le_add_left (by decide) _ | omega) (by first | exact Nat.le_add_right _ _ | exact Nat.add_le_add_left (by decide) _ | omega) ?_))
  exact WS_lv (lv := [(0, .ref q1), (1, .ref (A 0)), (2, .ref (A 179)), (3, .ref (A 517)), (4, .int (Int32.ofInt i))]) (List.forall_mem_cons.mpr ⟨(List.Mem.tail _ (List.Mem.tail _ (List.Mem.head _))), (List.forall_mem_cons.mpr ⟨(List.Mem.tail _ (List.Mem.tail _ (List.Mem.tail _ (List.Mem.head _)))), (List.forall_mem_cons.mpr ⟨(List.Mem.tail _ (List.Mem.tail _ (List.Mem.tail _ (List.Mem.tail _ (List.Mem.head _))))), (List.forall_mem_cons.mpr ⟨(List.Mem.tail _ (List.Mem.tail _ (List.Mem.tail _ (List.Mem.tail _ (List.Mem.tail _ (List.Mem.head _)))))), (List.forall_mem_cons.mpr ⟨(List.Mem.tail _ (List.Mem.tail _ (List.Mem.tail _ (List.Mem.tail _ (List.Mem.tail _ (List.Mem.tail _ (List.Mem.head _))))))), (fun q h => absurd h List.not_mem_nil)⟩)⟩)⟩)⟩)⟩) (hk A _ Is13 JRLx_s13 JFEQ_s13 (by first | exact oq_f34933ba ws13_89 ws9_89 p1 b6.1 | omega) (by first | exact oq_d7ce4408 ws13_12 ws9_12 p2 | omega) (by first | exact oq_5bcdc35f ws13_74 ws13_0 ws9_74 ws9_0 p3 | omega) (by first | exact oq_5bcdc35f ws13_90 ws13_9 ws9_90 ws9_9 p4 | omega))
theorem lc_5 (G : GX l s0 D tys a0 dT) (GR : RS0 s0) (SF : SF0 s0) (GT : TXs0 s0) {k : kx_T} (X : AX k 350 dT) (E : kL k = l ∧ kS0 k = s0 ∧ kD k = D ∧ kR k = room_1) {q1 L : Nat} {xs : Nat → Int32} (S : SX k q1 L xs) (hL : L ≤ 3072) (I : Bd s) (jR : RLx s) (jFEQ : FEQ s) (p1 : iI s 89 = 1) (p2 : iI s 12 ≤ 8) (p3 : iI s 0 = iI s 74) (p4 : iI s 9 = iI s 90) {i : Int} (hi : 0 ≤ i ∧ i + 6 ≤ (L : Int)) {ce sl : Nat} (hce : ce + 29 ≤ 601024) (hsl : sl + 222 ≤ 7293034) (hk : ∀ (A : Nat → Nat) (t : PS), Bd t → RLx t → FEQ t → iI t 89 = 1 → iI t 12 ≤ 8 → iI t 0 = iI t 74 → iI t 9 = iI t 90 → WS k 1877 [(0, .ref q1), (1, .ref (A 0)), (2, .ref (A 179)), (3, .ref (A 517)), (4, .int (Int32.ofInt i))] [] (Wd A dT t) (ce + 29) (sl + 222)) : WS k 414 [(0, .ref q1), (1, .ref (A 0)), (2, .ref (A 179)), (3, .ref (A 517)), (4, .int (Int32.ofInt i))] [] (Wd A dT s) ce sl := by
  have F : Fm [73] [8, 11, 12, 13, 14, 190, 191, 192, 193, 194, 195, 196, 197, 198, 199, 200, 201] s s := fm_rf _ _ s
  have b1 := bi_0 I
  have b2 := bi_74 I
  have b3 := bi_9 I
  have b4 := bi_90 I
  have b5 := bi_12 I
  have b6 := bi_89 I
  refine z_aload_n X (x := A 0) rfl (List.Mem.tail _ (List.Mem.head _)) (z_aload_n X (x := q1) rfl (List.Mem.head _) (z_load X (x := i) rfl (List.Mem.tail _ (List.Mem.tail _ (List.Mem.tail _ (List.Mem.tail _ (List.Mem.head _))))) (z_const X rfl (z_add X rfl (z_sld X S hL rfl (show 0 ≤ (i + 1) ∧ (i + 1) < (L : Int) by first | exact sx_in hi (by decide) | omega) ?_)))))
  have sr7 : rng (sc xs (i + 1)) := sc_rng
  refine z_aload_n X (x := q1) rfl (List.Mem.head _) (z_load X (x := i) rfl (List.Mem.tail _ (List.Mem.tail _ (List.Mem.tail _ (List.Mem.tail _ (List.Mem.head _))))) (z_const X rfl (z_add X rfl (z_sld X S hL rfl (show 0 ≤ (i + 2) ∧ (i + 2) < (L : Int) by first | exact sx_in hi (by decide) | omega) ?_))))
  have sr8 : rng (sc xs (i + 2)) := sc_rng
  refine z_aload_n X (x := q1) rfl (List.Mem.head _) (z_load X (x := i) rfl (List.Mem.tail _ (List.Mem.tail _ (List.Mem.tail _ (List.Mem.tail _ (List.Mem.head _))))) (z_const X rfl (z_add X rfl (z_sld X S hL rfl (show 0 ≤ (i + 3) ∧ (i + 3) < (L : Int) by first | exact sx_in hi (by decide) | omega) ?_))))
  have sr9 : rng (sc xs (i + 3)) := sc_rng
  refine z_aload_n X (x := q1) rfl (List.Mem.head _) (z_load X (x := i) rfl (List.Mem.tail _ (List.Mem.tail _ (List.Mem.tail _ (List.Mem.tail _ (List.Mem.head _))))) (z_const X rfl (z_add X rfl (z_sld X S hL rfl (show 0 ≤ (i + 4) ∧ (i + 4) < (L : Int) by first | exact sx_in hi (by decide) | omega) ?_))))
  have sr10 : rng (sc xs (i + 4)) := sc_rng
  refine z_callL X (rm := rmN 317) (As := [.ref (A 0), .int (Int32.ofInt (sc xs (i + 1))), .int (Int32.ofInt (sc xs (i + 2))), .int (Int32.ofInt (sc xs (i + 3))), .int (Int32.ofInt (sc xs (i + 4)))]) (st := []) rfl (by decide) rfl (by rw [E.1, E.2.1, E.2.2.1]; exact lw_flow2 G I (by omega) (by omega) (by omega) (by omega)) ⟨by rw [E.2.2.2]; exact (show 11 + 1 ≤ 2048 by decide), by rw [E.2.2.2]; exact (show 8 + (6 + 11) + 219 ≤ 84000 by decide), by rw [E.2.2.2]; exact (show ce + 5 ≤ 601024 by first | exact rmo_1 hce (by decide) | exact rmo_2 hce (by decide) | omega), by rw [E.2.2.2]; exact (show sl + 30 ≤ 7293034 by first | exact rmo_1 hsl (by decide) | exact rmo_2 hsl (by decide) | omega)⟩ (Nat.le_of_ble_eq_true rfl) (fun vv A s11 hA2 hq => ?_) (fun ee A s11 hA2 hq => ?_)
  rotate_left
  · obtain ⟨Is11, Fs11, e12, hv, hrs11, hps11⟩ := hq; cases hv
  obtain ⟨Is11, Fs11, e12, hv, hrs11, hps11⟩ := hq
  cases hv
  rw [← hA2 0 (by decide)]
  rw [← hA2 179 (by decide)]
  rw [← hA2 517 (by decide)]
  have Gs11 := fm_tq F Fs11 rfl rfl
  have JRLx_s11 : RLx s11 := RLx_fm Fs11 (by decide) jR
  have JFEQ_s11 : FEQ s11 := FEQ_fm Fs11 (by decide) jFEQ
  have ws11_0 : iI s11 0 = iI s 0 := fm_iq Fs11 rfl
  have ws11_74 : iI s11 74 = iI s 74 := fm_iq Fs11 rfl
  have ws11_9 : iI s11 9 = iI s 9 := fm_iq Fs11 rfl
  have ws11_90 : iI s11 90 = iI s 90 := fm_iq Fs11 rfl
  have ws11_12 : iI s11 12 = iI s 12 := fm_iq Fs11 rfl
  have ws11_89 : iI s11 89 = iI s 89 := fm_iq Fs11 rfl
  have wos11 : iO s11 = iO s := fm_o Fs11 (by decide)
  show WS k 442 [(0, .ref q1), (1, .ref (A 0)), (2, .ref (A 179)), (3, .ref (A 517)), (4, .int (Int32.ofInt i))] [.int (Int32.ofInt e12)] (Wd A dT s11) (ce + 5) (sl + 30)
  refine z_store X (lv' := [(5, .int (Int32.ofInt e12)), (0, .ref q1), (1, .ref (A 0)), (2, .ref (A 179)), (3, .ref (A 517)), (4, .int (Int32.ofInt i))]) rfl (by decide) (fun _ h => h) (z_aload_n X (x := A 179) rfl (List.Mem.tail _ (List.Mem.tail _ (List.Mem.tail _ (List.Mem.head _)))) (z_aload_n X (x := q1) rfl (List.Mem.tail _ (List.Mem.head _)) (z_load X (x := i) rfl (List.Mem.tail _ (List.Mem.tail _ (List.Mem.tail _ (List.Mem.tail _ (List.Mem.tail _ (List.Mem.head _)))))) (z_const X rfl (z_add X rfl (z_sld X S hL rfl (show 0 ≤ (i + 1) ∧ (i + 1) < (L : Int) by first | exact sx_in hi (by decide) | omega) ?_))))))
  have sr13 : rng (sc xs (i + 1)) := sc_rng
  refine z_aload_n X (x := q1) rfl (List.Mem.tail _ (List.Mem.head _)) (z_load X (x := i) rfl (List.Mem.tail _ (List.Mem.tail _ (List.Mem.tail _ (List.Mem.tail _ (List.Mem.tail _ (List.Mem.head _)))))) (z_const X rfl (z_add X rfl (z_sld X S hL rfl (show 0 ≤ (i + 2) ∧ (i + 2) < (L : Int) by first | exact sx_in hi (by decide) | omega) ?_))))
  have sr14 : rng (sc xs (i + 2)) := sc_rng
  refine z_aload_n X (x := q1) rfl (List.Mem.tail _ (List.Mem.head _)) (z_load X (x := i) rfl (List.Mem.tail _ (List.Mem.tail _ (List.Mem.tail _ (List.Mem.tail _ (List.Mem.tail _ (List.Mem.head _)))))) (z_const X rfl (z_add X rfl (z_sld X S hL rfl (show 0 ≤ (i + 3) ∧ (i + 3) < (L : Int) by first | exact sx_in hi (by decide) | omega) ?_))))
  have sr15 : rng (sc xs (i + 3)) := sc_rng
  refine z_aload_n X (x := q1) rfl (List.Mem.tail _ (List.Mem.head _)) (z_load X (x := i) rfl (List.Mem.tail _ (List.Mem.tail _ (List.Mem.tail _ (List.Mem.tail _ (List.Mem.tail _ (List.Mem.head _)))))) (z_const X rfl (z_add X rfl (z_sld X S hL rfl (show 0 ≤ (i + 4) ∧ (i + 4) < (L : Int) by first | exact sx_in hi (by decide) | omega) ?_))))
  have sr16 : rng (sc xs (i + 4)) := sc_rng
  refine z_callV X 179 (rm := rmN 218) (As := [.int (Int32.ofInt (sc xs (i + 1))), .int (Int32.ofInt (sc xs (i + 2))), .int (Int32.ofInt (sc xs (i + 3))), .int (Int32.ofInt (sc xs (i + 4)))]) (st := []) rfl rfl (by decide) rfl (by rw [E.1, E.2.1, E.2.2.1]; exact k_flow2 G Is11 (by first | exact ⟨sr13.1, sr13.2⟩ | omega) (by first | exact ⟨sr14.1, sr14.2⟩ | omega) (by first | exact ⟨sr15.1, sr15.2⟩ | omega) (by first | exact ⟨sr16.1, sr16.2⟩ | omega)) ⟨by rw [E.2.2.2]; exact (show 7 + 1 ≤ 2048 from oq_4e6106eb), by rw [E.2.2.2]; exact (show 8 + (6 + 11) + 122 ≤ 84000 from oq_380e4f97), by rw [E.2.2.2]; exact (show (ce + 5) + 0 ≤ 601024 by first | (clear hps11; omega) | omega), by rw [E.2.2.2]; exact (show (sl + 30) + 0 ≤ 7293034 by first | (clear hps11; omega) | omega)⟩ (Nat.le_of_ble_eq_true rfl) (fun vv s17 hq => ?_) (fun ee s17 hq => ?_)
  rotate_left
  · obtain ⟨Is17, Fs17, hv, hps17⟩ := hq; cases hv
  obtain ⟨Is17, Fs17, hv, hps17⟩ := hq
  cases hv
  have Gs17 := fm_tq Gs11 Fs17 rfl rfl
  have JRLx_s17 : RLx s17 := RLx_fm Fs17 (by decide) JRLx_s11
  have JFEQ_s17 : FEQ s17 := FEQ_fm Fs17 (by decide) JFEQ_s11
  have ws17_0 : iI s17 0 = iI s11 0 := fm_iq Fs17 rfl
  have ws17_74 : iI s17 74 = iI s11 74 := fm_iq Fs17 rfl
  have ws17_9 : iI s17 9 = iI s11 9 := fm_iq Fs17 rfl
  have ws17_90 : iI s17 90 = iI s11 90 := fm_iq Fs17 rfl
  have ws17_12 : iI s17 12 = iI s11 12 := fm_iq Fs17 rfl
  have ws17_89 : iI s17 89 = iI s11 89 := fm_iq Fs17 rfl
  have wos17 : iO s17 = iO s11 := fm_o Fs17 (by decide)
  show WS k 472 [(5, .int (Int32.ofInt e12)), (0, .ref q1), (1, .ref (A 0)), (2, .ref (A 179)), (3, .ref (A 517)), (4, .int (Int32.ofInt i))] [] (Wd A dT s17) (ce + 5) (sl + 30)
  refine z_goto X (t := 1877) rfl rfl (w_widen (ce' := ce + 29) (sl' := sl + 222) (by first | exact Nat.le_add_right _ _ | exact Nat.add_le_add_left (by decide) _ | omega) (by first | exact Nat.le_add_right _ _ | exact Nat.add_le_add_left (by decide) _ | omega) ?_)
  exact WS_lv (lv := [(0, .ref q1), (1, .ref (A 0)), (2, .ref (A 179)), (3, .ref (A 517)), (4, .int (Int32.ofInt i))]) (List.forall_mem_cons.mpr ⟨(List.Mem.tail _ (List.Mem.head _)), (List.forall_mem_cons.mpr ⟨(List.Mem.tail _ (List.Mem.tail _ (List.Mem.head _))), (List.forall_mem_cons.mpr ⟨(List.Mem.tail _ (List.Mem.tail _ (List.Mem.tail _ (List.Mem.head _)))), (List.forall_mem_cons.mpr ⟨(List.Mem.tail _ (List.Mem.tail _ (List.Mem.tail _ (List.Mem.tail _ (List.Mem.head _))))), (List.forall_mem_cons.mpr ⟨(List.Mem.tail _ (List.Mem.tail _ (List.Mem.tail _ (List.Mem.tail _ (List.Mem.tail _ (List.Mem.head _)))))), (fun q h => absurd h List.not_mem_nil)⟩)⟩)⟩)⟩)⟩) (hk A _ Is17 JRLx_s17 JFEQ_s17 (by first | exact oq_f34933ba ws17_89 ws11_89 p1 b6.1 | omega) (by first | exact oq_d7ce4408 ws17_12 ws11_12 p2 | omega) (by first | exact oq_5bcdc35f ws17_74 ws17_0 ws11_74 ws11_0 p3 | omega) (by first | exact oq_5bcdc35f ws17_90 ws17_9 ws11_90 ws11_9 p4 | omega))
theorem lc_6 (G : GX l s0 D tys a0 dT) (GR : RS0 s0) (SF : SF0 s0) (GT : TXs0 s0) {k : kx_T} (X : AX k 350 dT) (E : kL k = l ∧ kS0 k = s0 ∧ kD k = D ∧ kR k = room_1) {q1 L : Nat} {xs : Nat → Int32} (S : SX k q1 L xs) (hL : L ≤ 3072) (I : Bd s) (jR : RLx s) (jFEQ : FEQ s) (p1 : iI s 89 = 1) (p2 : iI s 12 ≤ 8) (p3 : iI s 0 = iI s 74) (p4 : iI s 9 = iI s 90) {i : Int} (hi : 0 ≤ i ∧ i + 6 ≤ (L : Int)) {ce sl : Nat} (hce : ce + 29 ≤ 601024) (hsl : sl + 222 ≤ 7293034) (hk : ∀ (A : Nat → Nat) (t : PS), Bd t → RLx t → FEQ t → iI t 89 = 1 → iI t 12 ≤ 8 → iI t 0 = iI t 74 → iI t 9 = iI t 90 → WS k 1877 [(0, .ref q1), (1, .ref (A 0)), (2, .ref (A 179)), (3, .ref (A 517)), (4, .int (Int32.ofInt i))] [] (Wd A dT t) (ce + 29) (sl + 222)) : WS k 475 [(0, .ref q1), (1, .ref (A 0)), (2, .ref (A 179)), (3, .ref (A 517)), (4, .int (Int32.ofInt i))] [] (Wd A dT s) ce sl := by
  have F : Fm [73] [9, 10, 11, 12, 13, 14, 163, 164] s s := fm_rf _ _ s
  have b1 := bi_0 I
  have b2 := bi_74 I
  have b3 := bi_9 I
  have b4 := bi_90 I
  have b5 := bi_12 I
  have b6 := bi_89 I
  refine z_aload_n X (x := A 0) rfl (List.Mem.tail _ (List.Mem.head _)) (z_aload_n X (x := q1) rfl (List.Mem.head _) (z_load X (x := i) rfl (List.Mem.tail _ (List.Mem.tail _ (List.Mem.tail _ (List.Mem.tail _ (List.Mem.head _))))) (z_const X rfl (z_add X rfl (z_sld X S hL rfl (show 0 ≤ (i + 1) ∧ (i + 1) < (L : Int) by first | exact sx_in hi (by decide) | omega) ?_)))))
  have sr7 : rng (sc xs (i + 1)) := sc_rng
  refine z_aload_n X (x := q1) rfl (List.Mem.head _) (z_load X (x := i) rfl (List.Mem.tail _ (List.Mem.tail _ (List.Mem.tail _ (List.Mem.tail _ (List.Mem.head _))))) (z_const X rfl (z_add X rfl (z_sld X S hL rfl (show 0 ≤ (i + 2) ∧ (i + 2) < (L : Int) by first | exact sx_in hi (by decide) | omega) ?_))))
  have sr8 : rng (sc xs (i + 2)) := sc_rng
  refine z_aload_n X (x := q1) rfl (List.Mem.head _) (z_load X (x := i) rfl (List.Mem.tail _ (List.Mem.tail _ (List.Mem.tail _ (List.Mem.tail _ (List.Mem.head _))))) (z_const X rfl (z_add X rfl (z_sld X S hL rfl (show 0 ≤ (i + 3) ∧ (i + 3) < (L : Int) by first | exact sx_in hi (by decide) | omega) ?_))))
  have sr9 : rng (sc xs (i + 3)) := sc_rng
  refine z_callL X (rm := rmN 318) (As := [.ref (A 0), .int (Int32.ofInt (sc xs (i + 1))), .int (Int32.ofInt (sc xs (i + 2))), .int (Int32.ofInt (sc xs (i + 3)))]) (st := []) rfl (by decide) rfl (by rw [E.1, E.2.1, E.2.2.1]; exact lw_span2 G I (by omega) (by omega) (by omega)) ⟨by rw [E.2.2.2]; exact (show 11 + 1 ≤ 2048 by decide), by rw [E.2.2.2]; exact (show 8 + (5 + 11) + 216 ≤ 84000 by decide), by rw [E.2.2.2]; exact (show ce + 3 ≤ 601024 by first | exact rmo_1 hce (by decide) | exact rmo_2 hce (by decide) | omega), by rw [E.2.2.2]; exact (show sl + 18 ≤ 7293034 by first | exact rmo_1 hsl (by decide) | exact rmo_2 hsl (by decide) | omega)⟩ (Nat.le_of_ble_eq_true rfl) (fun vv A s10 hA2 hq => ?_) (fun ee A s10 hA2 hq => ?_)
  rotate_left
  · obtain ⟨Is10, Fs10, e11, hv, hrs10, hps10⟩ := hq; cases hv
  obtain ⟨Is10, Fs10, e11, hv, hrs10, hps10⟩ := hq
  cases hv
  rw [← hA2 0 (by decide)]
  rw [← hA2 179 (by decide)]
  rw [← hA2 517 (by decide)]
  have Gs10 := fm_tq F Fs10 rfl rfl
  have JRLx_s10 : RLx s10 := RLx_fm Fs10 (by decide) jR
  have JFEQ_s10 : FEQ s10 := FEQ_fm Fs10 (by decide) jFEQ
  have ws10_0 : iI s10 0 = iI s 0 := fm_iq Fs10 rfl
  have ws10_74 : iI s10 74 = iI s 74 := fm_iq Fs10 rfl
  have ws10_9 : iI s10 9 = iI s 9 := fm_iq Fs10 rfl
  have ws10_90 : iI s10 90 = iI s 90 := fm_iq Fs10 rfl
  have ws10_12 : iI s10 12 = iI s 12 := fm_iq Fs10 rfl
  have ws10_89 : iI s10 89 = iI s 89 := fm_iq Fs10 rfl
  have wos10 : iO s10 = iO s := fm_o Fs10 (by decide)
  show WS k 497 [(0, .ref q1), (1, .ref (A 0)), (2, .ref (A 179)), (3, .ref (A 517)), (4, .int (Int32.ofInt i))] [.int (Int32.ofInt e11)] (Wd A dT s10) (ce + 3) (sl + 18)
  refine z_store X (lv' := [(5, .int (Int32.ofInt e11)), (0, .ref q1), (1, .ref (A 0)), (2, .ref (A 179)), (3, .ref (A 517)), (4, .int (Int32.ofInt i))]) rfl (by decide) (fun _ h => h) (z_aload_n X (x := A 179) rfl (List.Mem.tail _ (List.Mem.tail _ (List.Mem.tail _ (List.Mem.head _)))) (z_aload_n X (x := q1) rfl (List.Mem.tail _ (List.Mem.head _)) (z_load X (x := i) rfl (List.Mem.tail _ (List.Mem.tail _ (List.Mem.tail _ (List.Mem.tail _ (List.Mem.tail _ (List.Mem.head _)))))) (z_const X rfl (z_add X rfl (z_sld X S hL rfl (show 0 ≤ (i + 1) ∧ (i + 1) < (L : Int) by first | exact sx_in hi (by decide) | omega) ?_))))))
  have sr12 : rng (sc xs (i + 1)) := sc_rng
  refine z_aload_n X (x := q1) rfl (List.Mem.tail _ (List.Mem.head _)) (z_load X (x := i) rfl (List.Mem.tail _ (List.Mem.tail _ (List.Mem.tail _ (List.Mem.tail _ (List.Mem.tail _ (List.Mem.head _)))))) (z_const X rfl (z_add X rfl (z_sld X S hL rfl (show 0 ≤ (i + 2) ∧ (i + 2) < (L : Int) by first | exact sx_in hi (by decide) | omega) ?_))))
  have sr13 : rng (sc xs (i + 2)) := sc_rng
  refine z_aload_n X (x := q1) rfl (List.Mem.tail _ (List.Mem.head _)) (z_load X (x := i) rfl (List.Mem.tail _ (List.Mem.tail _ (List.Mem.tail _ (List.Mem.tail _ (List.Mem.tail _ (List.Mem.head _)))))) (z_const X rfl (z_add X rfl (z_sld X S hL rfl (show 0 ≤ (i + 3) ∧ (i + 3) < (L : Int) by first | exact sx_in hi (by decide) | omega) ?_))))
  have sr14 : rng (sc xs (i + 3)) := sc_rng
  refine z_callV X 179 (rm := rmN 219) (As := [.int (Int32.ofInt (sc xs (i + 1))), .int (Int32.ofInt (sc xs (i + 2))), .int (Int32.ofInt (sc xs (i + 3)))]) (st := []) rfl rfl (by decide) rfl (by rw [E.1, E.2.1, E.2.2.1]; exact k_span2 G Is10 (by first | exact ⟨sr12.1, sr12.2⟩ | omega) (by first | exact ⟨sr13.1, sr13.2⟩ | omega) (by first | exact ⟨sr14.1, sr14.2⟩ | omega)) ⟨by rw [E.2.2.2]; exact (show 7 + 1 ≤ 2048 from oq_4e6106eb), by rw [E.2.2.2]; exact (show 8 + (4 + 11) + 122 ≤ 84000 from oq_ebbf79c1), by rw [E.2.2.2]; exact (show (ce + 3) + 0 ≤ 601024 by first | (clear hps10; omega) | omega), by rw [E.2.2.2]; exact (show (sl + 18) + 0 ≤ 7293034 by first | (clear hps10; omega) | omega)⟩ (Nat.le_of_ble_eq_true rfl) (fun vv s15 hq => ?_) (fun ee s15 hq => ?_)
  rotate_left
  · obtain ⟨Is15, Fs15, hv, hps15⟩ := hq; cases hv
  obtain ⟨Is15, Fs15, hv, hps15⟩ := hq
  cases hv
  have Gs15 := fm_tq Gs10 Fs15 rfl rfl
  have JRLx_s15 : RLx s15 := RLx_fm Fs15 (by decide) JRLx_s10
  have JFEQ_s15 : FEQ s15 := FEQ_fm Fs15 (by decide) JFEQ_s10
  have ws15_0 : iI s15 0 = iI s10 0 := fm_iq Fs15 rfl
  have ws15_74 : iI s15 74 = iI s10 74 := fm_iq Fs15 rfl
  have ws15_9 : iI s15 9 = iI s10 9 := fm_iq Fs15 rfl
  have ws15_90 : iI s15 90 = iI s10 90 := fm_iq Fs15 rfl
  have ws15_12 : iI s15 12 = iI s10 12 := fm_iq Fs15 rfl
  have ws15_89 : iI s15 89 = iI s10 89 := fm_iq Fs15 rfl
  have wos15 : iO s15 = iO s10 := fm_o Fs15 (by decide)
  show WS k 521 [(5, .int (Int32.ofInt e11)), (0, .ref q1), (1, .ref (A 0)), (2, .ref (A 179)), (3, .ref (A 517)), (4, .int (Int32.ofInt i))] [] (Wd A dT s15) (ce + 3) (sl + 18)
  refine z_aload_n X (x := A 179) rfl (List.Mem.tail _ (List.Mem.tail _ (List.Mem.tail _ (List.Mem.head _)))) (z_callV X 179 (rm := rmN 186) (As := []) (st := []) rfl rfl (by decide) rfl (by rw [E.1, E.2.1, E.2.2.1]; exact k_thrown2 G Is15 ) ⟨by rw [E.2.2.2]; exact (show 6 + 1 ≤ 2048 from oq_4d34cb53), by rw [E.2.2.2]; exact (show 8 + (1 + 11) + 100 ≤ 84000 from oq_a32dccc4), by rw [E.2.2.2]; exact (show (ce + 3) + 0 ≤ 601024 by first | (clear hps15 hps10; omega) | (clear hps10; omega) | omega), by rw [E.2.2.2]; exact (show (sl + 18) + 0 ≤ 7293034 by first | (clear hps15 hps10; omega) | (clear hps10; omega) | omega)⟩ (Nat.le_of_ble_eq_true rfl) (fun vv s17 hq => ?_) (fun ee s17 hq => ?_))
  rotate_left
  · obtain ⟨rfl, e18, hv, hrs17, hps17⟩ := hq; cases hv
  obtain ⟨rfl, e18, hv, hrs17, hps17⟩ := hq
  cases hv
  show WS k 525 [(5, .int (Int32.ofInt e11)), (0, .ref q1), (1, .ref (A 0)), (2, .ref (A 179)), (3, .ref (A 517)), (4, .int (Int32.ofInt i))] [.int (Int32.ofInt e18)] (Wd A dT s15) (ce + 3) (sl + 18)
  refine z_load X (x := e11) rfl (List.Mem.head _) (z_icmp_eq X (t := 532) rfl rfl hrs17 ⟨by first | exact oq_49295347 hps10 | omega, by first | exact oq_336ad543 hps10 | omega⟩ (fun g19 => ?_) (fun g19 => ?_))
  ·
    refine z_goto X (t := 1877) rfl rfl (w_widen (ce' := ce + 29) (sl' := sl + 222) (by first | exact Nat.le_add_right _ _ | exact Nat.add_le_add_left (by decide) _ | omega) (by first | exact Nat.le_add_right _ _ | exact Nat.add_le_add_left (by decide) _ | omega) ?_)
    exact WS_lv (lv := [(0, .ref q1), (1, .ref (A 0)), (2, .ref (A 179)), (3, .ref (A 517)), (4, .int (Int32.ofInt i))]) (List.forall_mem_cons.mpr ⟨(List.Mem.tail _ (List.Mem.head _)), (List.forall_mem_cons.mpr ⟨(List.Mem.tail _ (List.Mem.tail _ (List.Mem.head _))), (List.forall_mem_cons.mpr ⟨(List.Mem.tail _ (List.Mem.tail _ (List.Mem.tail _ (List.Mem.head _)))), (List.forall_mem_cons.mpr ⟨(List.Mem.tail _ (List.Mem.tail _ (List.Mem.tail _ (List.Mem.tail _ (List.Mem.head _))))), (List.forall_mem_cons.mpr ⟨(List.Mem.tail _ (List.Mem.tail _ (List.Mem.tail _ (List.Mem.tail _ (List.Mem.tail _ (List.Mem.head _)))))), (fun q h => absurd h List.not_mem_nil)⟩)⟩)⟩)⟩)⟩) (hk A _ Is15 JRLx_s15 JFEQ_s15 (by first | exact oq_f34933ba ws15_89 ws10_89 p1 b6.1 | omega) (by first | exact oq_d7ce4408 ws15_12 ws10_12 p2 | omega) (by first | exact oq_5bcdc35f ws15_74 ws15_0 ws10_74 ws10_0 p3 | omega) (by first | exact oq_5bcdc35f ws15_90 ws15_9 ws10_90 ws10_9 p4 | omega))
  ·
    exfalso
    omega
theorem lc_7 (G : GX l s0 D tys a0 dT) (GR : RS0 s0) (SF : SF0 s0) (GT : TXs0 s0) {k : kx_T} (X : AX k 350 dT) (E : kL k = l ∧ kS0 k = s0 ∧ kD k = D ∧ kR k = room_1) {q1 L : Nat} {xs : Nat → Int32} (S : SX k q1 L xs) (hL : L ≤ 3072) (I : Bd s) (jR : RLx s) (jFEQ : FEQ s) (p1 : iI s 89 = 1) (p2 : iI s 12 ≤ 8) (p3 : iI s 0 = iI s 74) (p4 : iI s 9 = iI s 90) {i : Int} (hi : 0 ≤ i ∧ i + 6 ≤ (L : Int)) {ce sl : Nat} (hce : ce + 29 ≤ 601024) (hsl : sl + 222 ≤ 7293034) (hk : ∀ (A : Nat → Nat) (t : PS), Bd t → RLx t → FEQ t → iI t 89 = 1 → iI t 12 ≤ 8 → iI t 0 = iI t 74 → iI t 9 = iI t 90 → WS k 1877 [(0, .ref q1), (1, .ref (A 0)), (2, .ref (A 179)), (3, .ref (A 517)), (4, .int (Int32.ofInt i))] [] (Wd A dT t) (ce + 29) (sl + 222)) : WS k 535 [(0, .ref q1), (1, .ref (A 0)), (2, .ref (A 179)), (3, .ref (A 517)), (4, .int (Int32.ofInt i))] [] (Wd A dT s) ce sl := by
  have F : Fm [73] [1460] s s := fm_rf _ _ s
  have b1 := bi_0 I
  have b2 := bi_74 I
  have b3 := bi_9 I
  have b4 := bi_90 I
  have b5 := bi_12 I
  have b6 := bi_89 I
  refine z_aload_n X (x := A 0) rfl (List.Mem.tail _ (List.Mem.head _)) (z_aload_n X (x := q1) rfl (List.Mem.head _) (z_load X (x := i) rfl (List.Mem.tail _ (List.Mem.tail _ (List.Mem.tail _ (List.Mem.tail _ (List.Mem.head _))))) (z_const X rfl (z_add X rfl (z_sld X S hL rfl (show 0 ≤ (i + 1) ∧ (i + 1) < (L : Int) by first | exact sx_in hi (by decide) | omega) ?_)))))
  have sr7 : rng (sc xs (i + 1)) := sc_rng
  refine z_aload_n X (x := q1) rfl (List.Mem.head _) (z_load X (x := i) rfl (List.Mem.tail _ (List.Mem.tail _ (List.Mem.tail _ (List.Mem.tail _ (List.Mem.head _))))) (z_const X rfl (z_add X rfl (z_sld X S hL rfl (show 0 ≤ (i + 2) ∧ (i + 2) < (L : Int) by first | exact sx_in hi (by decide) | omega) ?_))))
  have sr8 : rng (sc xs (i + 2)) := sc_rng
  refine z_aload_n X (x := A 517) rfl (List.Mem.tail _ (List.Mem.tail _ (List.Mem.tail _ (List.Mem.head _)))) (z_callL X (rm := rmN 319) (As := [.ref (A 0), .int (Int32.ofInt (sc xs (i + 1))), .int (Int32.ofInt (sc xs (i + 2))), .ref (A 517)]) (st := []) rfl (by decide) rfl (by rw [E.1, E.2.1, E.2.2.1]; exact lw_most G I (by omega) (by omega)) ⟨by rw [E.2.2.2]; exact (show 9 + 1 ≤ 2048 by decide), by rw [E.2.2.2]; exact (show 8 + (5 + 11) + 166 ≤ 84000 by decide), by rw [E.2.2.2]; exact (show ce + 2 ≤ 601024 by first | exact rmo_1 hce (by decide) | exact rmo_2 hce (by decide) | omega), by rw [E.2.2.2]; exact (show sl + 12 ≤ 7293034 by first | exact rmo_1 hsl (by decide) | exact rmo_2 hsl (by decide) | omega)⟩ (Nat.le_of_ble_eq_true rfl) (fun vv A s9 hA2 hq => ?_) (fun ee A s9 hA2 hq => ?_))
  rotate_left
  · obtain ⟨Is9, Fs9, e10, hv, hrs9, hps9⟩ := hq; cases hv
  obtain ⟨Is9, Fs9, e10, hv, hrs9, hps9⟩ := hq
  cases hv
  rw [← hA2 0 (by decide)]
  rw [← hA2 179 (by decide)]
  rw [← hA2 517 (by decide)]
  have Gs9 := fm_tq F Fs9 rfl rfl
  have JRLx_s9 : RLx s9 := RLx_fm Fs9 (by decide) jR
  have JFEQ_s9 : FEQ s9 := FEQ_fm Fs9 (by decide) jFEQ
  have ws9_0 : iI s9 0 = iI s 0 := fm_iq Fs9 rfl
  have ws9_74 : iI s9 74 = iI s 74 := fm_iq Fs9 rfl
  have ws9_9 : iI s9 9 = iI s 9 := fm_iq Fs9 rfl
  have ws9_90 : iI s9 90 = iI s 90 := fm_iq Fs9 rfl
  have ws9_12 : iI s9 12 = iI s 12 := fm_iq Fs9 rfl
  have ws9_89 : iI s9 89 = iI s 89 := fm_iq Fs9 rfl
  show WS k 552 [(0, .ref q1), (1, .ref (A 0)), (2, .ref (A 179)), (3, .ref (A 517)), (4, .int (Int32.ofInt i))] [.int (Int32.ofInt e10)] (Wd A dT s9) (ce + 2) (sl + 12)
  refine z_store X (lv' := [(5, .int (Int32.ofInt e10)), (0, .ref q1), (1, .ref (A 0)), (2, .ref (A 179)), (3, .ref (A 517)), (4, .int (Int32.ofInt i))]) rfl (by decide) (fun _ h => h) (z_aload_n X (x := A 179) rfl (List.Mem.tail _ (List.Mem.tail _ (List.Mem.tail _ (List.Mem.head _)))) (z_aload_n X (x := q1) rfl (List.Mem.tail _ (List.Mem.head _)) (z_load X (x := i) rfl (List.Mem.tail _ (List.Mem.tail _ (List.Mem.tail _ (List.Mem.tail _ (List.Mem.tail _ (List.Mem.head _)))))) (z_const X rfl (z_add X rfl (z_sld X S hL rfl (show 0 ≤ (i + 1) ∧ (i + 1) < (L : Int) by first | exact sx_in hi (by decide) | omega) ?_))))))
  have sr11 : rng (sc xs (i + 1)) := sc_rng
  refine z_aload_n X (x := q1) rfl (List.Mem.tail _ (List.Mem.head _)) (z_load X (x := i) rfl (List.Mem.tail _ (List.Mem.tail _ (List.Mem.tail _ (List.Mem.tail _ (List.Mem.tail _ (List.Mem.head _)))))) (z_const X rfl (z_add X rfl (z_sld X S hL rfl (show 0 ≤ (i + 2) ∧ (i + 2) < (L : Int) by first | exact sx_in hi (by decide) | omega) ?_))))
  have sr12 : rng (sc xs (i + 2)) := sc_rng
  refine z_callV X 179 (rm := rmN 221) (As := [.int (Int32.ofInt (sc xs (i + 1))), .int (Int32.ofInt (sc xs (i + 2)))]) (st := []) rfl rfl (by decide) rfl (by rw [E.1, E.2.1, E.2.2.1]; exact k_most G Is9 (by first | exact ⟨sr11.1, sr11.2⟩ | omega) (by first | exact ⟨sr12.1, sr12.2⟩ | omega)) ⟨by rw [E.2.2.2]; exact (show 8 + 1 ≤ 2048 from oq_5bf2829b), by rw [E.2.2.2]; exact (show 8 + (3 + 11) + 146 ≤ 84000 from oq_263907be), by rw [E.2.2.2]; exact (show (ce + 2) + 0 ≤ 601024 by omega), by rw [E.2.2.2]; exact (show (sl + 12) + 0 ≤ 7293034 by omega)⟩ (Nat.le_of_ble_eq_true rfl) (fun vv s13 hq => ?_) (fun ee s13 hq => ?_)
  rotate_left
  · obtain ⟨Is13, Fs13, e14, hv, hrs13, hps13⟩ := hq; cases hv
  obtain ⟨Is13, Fs13, e14, hv, hrs13, hps13⟩ := hq
  cases hv
  have Gs13 := fm_tq Gs9 Fs13 rfl rfl
  have JRLx_s13 : RLx s13 := RLx_fm Fs13 (by decide) JRLx_s9
  have JFEQ_s13 : FEQ s13 := FEQ_fm Fs13 (by decide) JFEQ_s9
  have ws13_0 : iI s13 0 = iI s9 0 := fm_iq Fs13 rfl
  have ws13_74 : iI s13 74 = iI s9 74 := fm_iq Fs13 rfl
  have ws13_9 : iI s13 9 = iI s9 9 := fm_iq Fs13 rfl
  have ws13_90 : iI s13 90 = iI s9 90 := fm_iq Fs13 rfl
  have ws13_12 : iI s13 12 = iI s9 12 := fm_iq Fs13 rfl
  have ws13_89 : iI s13 89 = iI s9 89 := fm_iq Fs13 rfl
  have wos13 : iO s13 = iO s9 := fm_o Fs13 (by decide)
  show WS k 570 [(5, .int (Int32.ofInt e10)), (0, .ref q1), (1, .ref (A 0)), (2, .ref (A 179)), (3, .ref (A 517)), (4, .int (Int32.ofInt i))] [.int (Int32.ofInt e14)] (Wd A dT s13) (ce + 2) (sl + 12)
  refine z_store X (lv' := [(6, .int (Int32.ofInt e14)), (5, .int (Int32.ofInt e10)), (0, .ref q1), (1, .ref (A 0)), (2, .ref (A 179)), (3, .ref (A 517)), (4, .int (Int32.ofInt i))]) rfl (by decide) (fun _ h => h) (z_goto X (t := 1877) rfl rfl (w_widen (ce' := ce + 29) (sl' := sl + 222) (by first | exact Nat.le_add_right _ _ | exact Nat.add_le_add_left (by decide) _ | omega) (by first | exact Nat.le_add_right _ _ | exact Nat.add_le_add_left (by decide) _ | omega) ?_))
  exact WS_lv (lv := [(0, .ref q1), (1, .ref (A 0)), (2, .ref (A 179)), (3, .ref (A 517)), (4, .int (Int32.ofInt i))]) (List.forall_mem_cons.mpr ⟨(List.Mem.tail _ (List.Mem.tail _ (List.Mem.head _))), (List.forall_mem_cons.mpr ⟨(List.Mem.tail _ (List.Mem.tail _ (List.Mem.tail _ (List.Mem.head _)))), (List.forall_mem_cons.mpr ⟨(List.Mem.tail _ (List.Mem.tail _ (List.Mem.tail _ (List.Mem.tail _ (List.Mem.head _))))), (List.forall_mem_cons.mpr ⟨(List.Mem.tail _ (List.Mem.tail _ (List.Mem.tail _ (List.Mem.tail _ (List.Mem.tail _ (List.Mem.head _)))))), (List.forall_mem_cons.mpr ⟨(List.Mem.tail _ (List.Mem.tail _ (List.Mem.tail _ (List.Mem.tail _ (List.Mem.tail _ (List.Mem.tail _ (List.Mem.head _))))))), (fun q h => absurd h List.not_mem_nil)⟩)⟩)⟩)⟩)⟩) (hk A _ Is13 JRLx_s13 JFEQ_s13 (by first | exact oq_f34933ba ws13_89 ws9_89 p1 b6.1 | omega) (by first | exact oq_d7ce4408 ws13_12 ws9_12 p2 | omega) (by first | exact oq_5bcdc35f ws13_74 ws13_0 ws9_74 ws9_0 p3 | omega) (by first | exact oq_5bcdc35f ws13_90 ws13_9 ws9_90 ws9_9 p4 | omega))
theorem lc_8 (G : GX l s0 D tys a0 dT) (GR : RS0 s0) (SF : SF0 s0) (GT : TXs0 s0) {k : kx_T} (X : AX k 350 dT) (E : kL k = l ∧ kS0 k = s0 ∧ kD k = D ∧ kR k = room_1) {q1 L : Nat} {xs : Nat → Int32} (S : SX k q1 L xs) (hL : L ≤ 3072) (I : Bd s) (jR : RLx s) (jFEQ : FEQ s) (p1 : iI s 89 = 1) (p2 : iI s 12 ≤ 8) (p3 : iI s 0 = iI s 74) (p4 : iI s 9 = iI s 90) {i : Int} (hi : 0 ≤ i ∧ i + 6 ≤ (L : Int)) {ce sl : Nat} (hce : ce + 29 ≤ 601024) (hsl : sl + 222 ≤ 7293034) (hk : ∀ (A : Nat → Nat) (t : PS), Bd t → RLx t → FEQ t → iI t 89 = 1 → iI t 12 ≤ 8 → iI t 0 = iI t 74 → iI t 9 = iI t 90 → WS k 1877 [(0, .ref q1), (1, .ref (A 0)), (2, .ref (A 179)), (3, .ref (A 517)), (4, .int (Int32.ofInt i))] [] (Wd A dT t) (ce + 29) (sl + 222)) : WS k 575 [(0, .ref q1), (1, .ref (A 0)), (2, .ref (A 179)), (3, .ref (A 517)), (4, .int (Int32.ofInt i))] [] (Wd A dT s) ce sl := by
  have F : Fm [73] [21, 1022, 1023, 1460, 228] s s := fm_rf _ _ s
  have b1 := bi_0 I
  have b2 := bi_74 I
  have b3 := bi_9 I
  have b4 := bi_90 I
  have b5 := bi_12 I
  have b6 := bi_89 I
  refine z_aload_n X (x := A 0) rfl (List.Mem.tail _ (List.Mem.head _)) (z_aload_n X (x := q1) rfl (List.Mem.head _) (z_load X (x := i) rfl (List.Mem.tail _ (List.Mem.tail _ (List.Mem.tail _ (List.Mem.tail _ (List.Mem.head _))))) (z_const X rfl (z_add X rfl (z_sld X S hL rfl (show 0 ≤ (i + 1) ∧ (i + 1) < (L : Int) by first | exact sx_in hi (by decide) | omega) ?_)))))
  have sr7 : rng (sc xs (i + 1)) := sc_rng
  refine z_aload_n X (x := q1) rfl (List.Mem.head _) (z_load X (x := i) rfl (List.Mem.tail _ (List.Mem.tail _ (List.Mem.tail _ (List.Mem.tail _ (List.Mem.head _))))) (z_const X rfl (z_add X rfl (z_sld X S hL rfl (show 0 ≤ (i + 2) ∧ (i + 2) < (L : Int) by first | exact sx_in hi (by decide) | omega) ?_))))
  have sr8 : rng (sc xs (i + 2)) := sc_rng
  refine z_aload_n X (x := A 517) rfl (List.Mem.tail _ (List.Mem.tail _ (List.Mem.tail _ (List.Mem.head _)))) (z_callL X (rm := rmN 320) (As := [.ref (A 0), .int (Int32.ofInt (sc xs (i + 1))), .int (Int32.ofInt (sc xs (i + 2))), .ref (A 517)]) (st := []) rfl (by decide) rfl (by rw [E.1, E.2.1, E.2.2.1]; exact lw_assign G I (by omega) (by omega)) ⟨by rw [E.2.2.2]; exact (show 8 + 1 ≤ 2048 by decide), by rw [E.2.2.2]; exact (show 8 + (5 + 11) + 148 ≤ 84000 by decide), by rw [E.2.2.2]; exact (show ce + 2 ≤ 601024 by first | exact rmo_1 hce (by decide) | exact rmo_2 hce (by decide) | omega), by rw [E.2.2.2]; exact (show sl + 12 ≤ 7293034 by first | exact rmo_1 hsl (by decide) | exact rmo_2 hsl (by decide) | omega)⟩ (Nat.le_of_ble_eq_true rfl) (fun vv A s9 hA2 hq => ?_) (fun ee A s9 hA2 hq => ?_))
  rotate_left
  · obtain ⟨Is9, Fs9, e10, hv, hrs9, hps9⟩ := hq; cases hv
  obtain ⟨Is9, Fs9, e10, hv, hrs9, hps9⟩ := hq
  cases hv
  rw [← hA2 0 (by decide)]
  rw [← hA2 179 (by decide)]
  rw [← hA2 517 (by decide)]
  have Gs9 := fm_tq F Fs9 rfl rfl
  have JRLx_s9 : RLx s9 := RLx_fm Fs9 (by decide) jR
  have JFEQ_s9 : FEQ s9 := FEQ_fm Fs9 (by decide) jFEQ
  have ws9_0 : iI s9 0 = iI s 0 := fm_iq Fs9 rfl
  have ws9_74 : iI s9 74 = iI s 74 := fm_iq Fs9 rfl
  have ws9_9 : iI s9 9 = iI s 9 := fm_iq Fs9 rfl
  have ws9_90 : iI s9 90 = iI s 90 := fm_iq Fs9 rfl
  have ws9_12 : iI s9 12 = iI s 12 := fm_iq Fs9 rfl
  have ws9_89 : iI s9 89 = iI s 89 := fm_iq Fs9 rfl
  show WS k 592 [(0, .ref q1), (1, .ref (A 0)), (2, .ref (A 179)), (3, .ref (A 517)), (4, .int (Int32.ofInt i))] [.int (Int32.ofInt e10)] (Wd A dT s9) (ce + 2) (sl + 12)
  refine z_store X (lv' := [(5, .int (Int32.ofInt e10)), (0, .ref q1), (1, .ref (A 0)), (2, .ref (A 179)), (3, .ref (A 517)), (4, .int (Int32.ofInt i))]) rfl (by decide) (fun _ h => h) (z_aload_n X (x := A 179) rfl (List.Mem.tail _ (List.Mem.tail _ (List.Mem.tail _ (List.Mem.head _)))) (z_aload_n X (x := q1) rfl (List.Mem.tail _ (List.Mem.head _)) (z_load X (x := i) rfl (List.Mem.tail _ (List.Mem.tail _ (List.Mem.tail _ (List.Mem.tail _ (List.Mem.tail _ (List.Mem.head _)))))) (z_const X rfl (z_add X rfl (z_sld X S hL rfl (show 0 ≤ (i + 1) ∧ (i + 1) < (L : Int) by first | exact sx_in hi (by decide) | omega) ?_))))))
  have sr11 : rng (sc xs (i + 1)) := sc_rng
  refine z_aload_n X (x := q1) rfl (List.Mem.tail _ (List.Mem.head _)) (z_load X (x := i) rfl (List.Mem.tail _ (List.Mem.tail _ (List.Mem.tail _ (List.Mem.tail _ (List.Mem.tail _ (List.Mem.head _)))))) (z_const X rfl (z_add X rfl (z_sld X S hL rfl (show 0 ≤ (i + 2) ∧ (i + 2) < (L : Int) by first | exact sx_in hi (by decide) | omega) ?_))))
  have sr12 : rng (sc xs (i + 2)) := sc_rng
  refine z_callV X 179 (rm := rmN 234) (As := [.int (Int32.ofInt (sc xs (i + 1))), .int (Int32.ofInt (sc xs (i + 2)))]) (st := []) rfl rfl (by decide) rfl (by rw [E.1, E.2.1, E.2.2.1]; exact k_assign G Is9 (by first | exact ⟨sr11.1, sr11.2⟩ | omega) (by first | exact ⟨sr12.1, sr12.2⟩ | omega)) ⟨by rw [E.2.2.2]; exact (show 7 + 1 ≤ 2048 from oq_4e6106eb), by rw [E.2.2.2]; exact (show 8 + (4 + 11) + 122 ≤ 84000 from oq_ebbf79c1), by rw [E.2.2.2]; exact (show (ce + 2) + 0 ≤ 601024 by omega), by rw [E.2.2.2]; exact (show (sl + 12) + 0 ≤ 7293034 by omega)⟩ (Nat.le_of_ble_eq_true rfl) (fun vv s13 hq => ?_) (fun ee s13 hq => ?_)
  rotate_left
  · obtain ⟨Is13, Fs13, e14, hv, hrs13, hps13⟩ := hq; cases hv
  obtain ⟨Is13, Fs13, e14, hv, hrs13, hps13⟩ := hq
  cases hv
  have Gs13 := fm_tq Gs9 Fs13 rfl rfl
  have JRLx_s13 : RLx s13 := RLx_fm Fs13 (by decide) JRLx_s9
  have JFEQ_s13 : FEQ s13 := FEQ_fm Fs13 (by decide) JFEQ_s9
  have ws13_0 : iI s13 0 = iI s9 0 := fm_iq Fs13 rfl
  have ws13_74 : iI s13 74 = iI s9 74 := fm_iq Fs13 rfl
  have ws13_9 : iI s13 9 = iI s9 9 := fm_iq Fs13 rfl
  have ws13_90 : iI s13 90 = iI s9 90 := fm_iq Fs13 rfl
  have ws13_12 : iI s13 12 = iI s9 12 := fm_iq Fs13 rfl
  have ws13_89 : iI s13 89 = iI s9 89 := fm_iq Fs13 rfl
  have wos13 : iO s13 = iO s9 := fm_o Fs13 (by decide)
  show WS k 610 [(5, .int (Int32.ofInt e10)), (0, .ref q1), (1, .ref (A 0)), (2, .ref (A 179)), (3, .ref (A 517)), (4, .int (Int32.ofInt i))] [.int (Int32.ofInt e14)] (Wd A dT s13) (ce + 2) (sl + 12)
  refine z_store X (lv' := [(6, .int (Int32.ofInt e14)), (5, .int (Int32.ofInt e10)), (0, .ref q1), (1, .ref (A 0)), (2, .ref (A 179)), (3, .ref (A 517)), (4, .int (Int32.ofInt i))]) rfl (by decide) (fun _ h => h) (z_goto X (t := 1877) rfl rfl (w_widen (ce' := ce + 29) (sl' := sl + 222) (by first | exact Nat.le_add_right _ _ | exact Nat.add_le_add_left (by decide) _ | omega) (by first | exact Nat.le_add_right _ _ | exact Nat.add_le_add_left (by decide) _ | omega) ?_))
  exact WS_lv (lv := [(0, .ref q1), (1, .ref (A 0)), (2, .ref (A 179)), (3, .ref (A 517)), (4, .int (Int32.ofInt i))]) (List.forall_mem_cons.mpr ⟨(List.Mem.tail _ (List.Mem.tail _ (List.Mem.head _))), (List.forall_mem_cons.mpr ⟨(List.Mem.tail _ (List.Mem.tail _ (List.Mem.tail _ (List.Mem.head _)))), (List.forall_mem_cons.mpr ⟨(List.Mem.tail _ (List.Mem.tail _ (List.Mem.tail _ (List.Mem.tail _ (List.Mem.head _))))), (List.forall_mem_cons.mpr ⟨(List.Mem.tail _ (List.Mem.tail _ (List.Mem.tail _ (List.Mem.tail _ (List.Mem.tail _ (List.Mem.head _)))))), (List.forall_mem_cons.mpr ⟨(List.Mem.tail _ (List.Mem.tail _ (List.Mem.tail _ (List.Mem.tail _ (List.Mem.tail _ (List.Mem.tail _ (List.Mem.head _))))))), (fun q h => absurd h List.not_mem_nil)⟩)⟩)⟩)⟩)⟩) (hk A _ Is13 JRLx_s13 JFEQ_s13 (by first | exact oq_f34933ba ws13_89 ws9_89 p1 b6.1 | omega) (by first | exact oq_d7ce4408 ws13_12 ws9_12 p2 | omega) (by first | exact oq_5bcdc35f ws13_74 ws13_0 ws9_74 ws9_0 p3 | omega) (by first | exact oq_5bcdc35f ws13_90 ws13_9 ws9_90 ws9_9 p4 | omega))
theorem lc_9 (G : GX l s0 D tys a0 dT) (GR : RS0 s0) (SF : SF0 s0) (GT : TXs0 s0) {k : kx_T} (X : AX k 350 dT) (E : kL k = l ∧ kS0 k = s0 ∧ kD k = D ∧ kR k = room_1) {q1 L : Nat} {xs : Nat → Int32} (S : SX k q1 L xs) (hL : L ≤ 3072) (I : Bd s) (jR : RLx s) (jFEQ : FEQ s) (p1 : iI s 89 = 1) (p2 : iI s 12 ≤ 8) (p3 : iI s 0 = iI s 74) (p4 : iI s 9 = iI s 90) {i : Int} (hi : 0 ≤ i ∧ i + 6 ≤ (L : Int)) {ce sl : Nat} (hce : ce + 29 ≤ 601024) (hsl : sl + 222 ≤ 7293034) (hk : ∀ (A : Nat → Nat) (t : PS), Bd t → RLx t → FEQ t → iI t 89 = 1 → iI t 12 ≤ 8 → iI t 0 = iI t 74 → iI t 9 = iI t 90 → WS k 1877 [(0, .ref q1), (1, .ref (A 0)), (2, .ref (A 179)), (3, .ref (A 517)), (4, .int (Int32.ofInt i))] [] (Wd A dT t) (ce + 29) (sl + 222)) : WS k 615 [(0, .ref q1), (1, .ref (A 0)), (2, .ref (A 179)), (3, .ref (A 517)), (4, .int (Int32.ofInt i))] [] (Wd A dT s) ce sl := by
  have F : Fm [73] [21, 1022, 1023, 1460, 228] s s := fm_rf _ _ s
  have b1 := bi_0 I
  have b2 := bi_74 I
  have b3 := bi_9 I
  have b4 := bi_90 I
  have b5 := bi_12 I
  have b6 := bi_89 I
  refine z_aload_n X (x := A 0) rfl (List.Mem.tail _ (List.Mem.head _)) (z_aload_n X (x := q1) rfl (List.Mem.head _) (z_load X (x := i) rfl (List.Mem.tail _ (List.Mem.tail _ (List.Mem.tail _ (List.Mem.tail _ (List.Mem.head _))))) (z_const X rfl (z_add X rfl (z_sld X S hL rfl (show 0 ≤ (i + 1) ∧ (i + 1) < (L : Int) by first | exact sx_in hi (by decide) | omega) ?_)))))
  have sr7 : rng (sc xs (i + 1)) := sc_rng
  refine z_aload_n X (x := q1) rfl (List.Mem.head _) (z_load X (x := i) rfl (List.Mem.tail _ (List.Mem.tail _ (List.Mem.tail _ (List.Mem.tail _ (List.Mem.head _))))) (z_const X rfl (z_add X rfl (z_sld X S hL rfl (show 0 ≤ (i + 2) ∧ (i + 2) < (L : Int) by first | exact sx_in hi (by decide) | omega) ?_))))
  have sr8 : rng (sc xs (i + 2)) := sc_rng
  refine z_aload_n X (x := q1) rfl (List.Mem.head _) (z_load X (x := i) rfl (List.Mem.tail _ (List.Mem.tail _ (List.Mem.tail _ (List.Mem.tail _ (List.Mem.head _))))) (z_const X rfl (z_add X rfl (z_sld X S hL rfl (show 0 ≤ (i + 3) ∧ (i + 3) < (L : Int) by first | exact sx_in hi (by decide) | omega) ?_))))
  have sr9 : rng (sc xs (i + 3)) := sc_rng
  refine z_aload_n X (x := A 517) rfl (List.Mem.tail _ (List.Mem.tail _ (List.Mem.tail _ (List.Mem.head _)))) (z_callL X (rm := rmN 321) (As := [.ref (A 0), .int (Int32.ofInt (sc xs (i + 1))), .int (Int32.ofInt (sc xs (i + 2))), .int (Int32.ofInt (sc xs (i + 3))), .ref (A 517)]) (st := []) rfl (by decide) rfl (by rw [E.1, E.2.1, E.2.2.1]; exact lw_paint G I (by omega) (by omega) (by omega)) ⟨by rw [E.2.2.2]; exact (show 9 + 1 ≤ 2048 by decide), by rw [E.2.2.2]; exact (show 8 + (6 + 11) + 175 ≤ 84000 by decide), by rw [E.2.2.2]; exact (show ce + 4 ≤ 601024 by first | exact rmo_1 hce (by decide) | exact rmo_2 hce (by decide) | omega), by rw [E.2.2.2]; exact (show sl + 24 ≤ 7293034 by first | exact rmo_1 hsl (by decide) | exact rmo_2 hsl (by decide) | omega)⟩ (Nat.le_of_ble_eq_true rfl) (fun vv A s10 hA2 hq => ?_) (fun ee A s10 hA2 hq => ?_))
  rotate_left
  · obtain ⟨Is10, Fs10, e11, hv, hrs10, hps10⟩ := hq; cases hv
  obtain ⟨Is10, Fs10, e11, hv, hrs10, hps10⟩ := hq
  cases hv
  rw [← hA2 0 (by decide)]
  rw [← hA2 179 (by decide)]
  rw [← hA2 517 (by decide)]
  have Gs10 := fm_tq F Fs10 rfl rfl
  have JRLx_s10 : RLx s10 := RLx_fm Fs10 (by decide) jR
  have JFEQ_s10 : FEQ s10 := FEQ_fm Fs10 (by decide) jFEQ
  have ws10_0 : iI s10 0 = iI s 0 := fm_iq Fs10 rfl
  have ws10_74 : iI s10 74 = iI s 74 := fm_iq Fs10 rfl
  have ws10_9 : iI s10 9 = iI s 9 := fm_iq Fs10 rfl
  have ws10_90 : iI s10 90 = iI s 90 := fm_iq Fs10 rfl
  have ws10_12 : iI s10 12 = iI s 12 := fm_iq Fs10 rfl
  have ws10_89 : iI s10 89 = iI s 89 := fm_iq Fs10 rfl
  show WS k 638 [(0, .ref q1), (1, .ref (A 0)), (2, .ref (A 179)), (3, .ref (A 517)), (4, .int (Int32.ofInt i))] [.int (Int32.ofInt e11)] (Wd A dT s10) (ce + 4) (sl + 24)
  refine z_store X (lv' := [(5, .int (Int32.ofInt e11)), (0, .ref q1), (1, .ref (A 0)), (2, .ref (A 179)), (3, .ref (A 517)), (4, .int (Int32.ofInt i))]) rfl (by decide) (fun _ h => h) (z_aload_n X (x := A 179) rfl (List.Mem.tail _ (List.Mem.tail _ (List.Mem.tail _ (List.Mem.head _)))) (z_aload_n X (x := q1) rfl (List.Mem.tail _ (List.Mem.head _)) (z_load X (x := i) rfl (List.Mem.tail _ (List.Mem.tail _ (List.Mem.tail _ (List.Mem.tail _ (List.Mem.tail _ (List.Mem.head _)))))) (z_const X rfl (z_add X rfl (z_sld X S hL rfl (show 0 ≤ (i + 1) ∧ (i + 1) < (L : Int) by first | exact sx_in hi (by decide) | omega) ?_))))))
  have sr12 : rng (sc xs (i + 1)) := sc_rng
  refine z_aload_n X (x := q1) rfl (List.Mem.tail _ (List.Mem.head _)) (z_load X (x := i) rfl (List.Mem.tail _ (List.Mem.tail _ (List.Mem.tail _ (List.Mem.tail _ (List.Mem.tail _ (List.Mem.head _)))))) (z_const X rfl (z_add X rfl (z_sld X S hL rfl (show 0 ≤ (i + 2) ∧ (i + 2) < (L : Int) by first | exact sx_in hi (by decide) | omega) ?_))))
  have sr13 : rng (sc xs (i + 2)) := sc_rng
  refine z_aload_n X (x := q1) rfl (List.Mem.tail _ (List.Mem.head _)) (z_load X (x := i) rfl (List.Mem.tail _ (List.Mem.tail _ (List.Mem.tail _ (List.Mem.tail _ (List.Mem.tail _ (List.Mem.head _)))))) (z_const X rfl (z_add X rfl (z_sld X S hL rfl (show 0 ≤ (i + 3) ∧ (i + 3) < (L : Int) by first | exact sx_in hi (by decide) | omega) ?_))))
  have sr14 : rng (sc xs (i + 3)) := sc_rng
  refine z_callV X 179 (rm := rmN 235) (As := [.int (Int32.ofInt (sc xs (i + 1))), .int (Int32.ofInt (sc xs (i + 2))), .int (Int32.ofInt (sc xs (i + 3)))]) (st := []) rfl rfl (by decide) rfl (by rw [E.1, E.2.1, E.2.2.1]; exact k_paint G Is10 (by first | exact ⟨sr12.1, sr12.2⟩ | omega) (by first | exact ⟨sr13.1, sr13.2⟩ | omega) (by first | exact ⟨sr14.1, sr14.2⟩ | omega)) ⟨by rw [E.2.2.2]; exact (show 7 + 1 ≤ 2048 from oq_4e6106eb), by rw [E.2.2.2]; exact (show 8 + (6 + 11) + 122 ≤ 84000 from oq_380e4f97), by rw [E.2.2.2]; exact (show (ce + 4) + 0 ≤ 601024 by omega), by rw [E.2.2.2]; exact (show (sl + 24) + 0 ≤ 7293034 by omega)⟩ (Nat.le_of_ble_eq_true rfl) (fun vv s15 hq => ?_) (fun ee s15 hq => ?_)
  rotate_left
  · obtain ⟨Is15, Fs15, e16, hv, hrs15, hps15⟩ := hq; cases hv
  obtain ⟨Is15, Fs15, e16, hv, hrs15, hps15⟩ := hq
  cases hv
  have Gs15 := fm_tq Gs10 Fs15 rfl rfl
  have JRLx_s15 : RLx s15 := RLx_fm Fs15 (by decide) JRLx_s10
  have JFEQ_s15 : FEQ s15 := FEQ_fm Fs15 (by decide) JFEQ_s10
  have ws15_0 : iI s15 0 = iI s10 0 := fm_iq Fs15 rfl
  have ws15_74 : iI s15 74 = iI s10 74 := fm_iq Fs15 rfl
  have ws15_9 : iI s15 9 = iI s10 9 := fm_iq Fs15 rfl
  have ws15_90 : iI s15 90 = iI s10 90 := fm_iq Fs15 rfl
  have ws15_12 : iI s15 12 = iI s10 12 := fm_iq Fs15 rfl
  have ws15_89 : iI s15 89 = iI s10 89 := fm_iq Fs15 rfl
  have wos15 : iO s15 = iO s10 := fm_o Fs15 (by decide)
  show WS k 662 [(5, .int (Int32.ofInt e11)), (0, .ref q1), (1, .ref (A 0)), (2, .ref (A 179)), (3, .ref (A 517)), (4, .int (Int32.ofInt i))] [.int (Int32.ofInt e16)] (Wd A dT s15) (ce + 4) (sl + 24)
  refine z_store X (lv' := [(6, .int (Int32.ofInt e16)), (5, .int (Int32.ofInt e11)), (0, .ref q1), (1, .ref (A 0)), (2, .ref (A 179)), (3, .ref (A 517)), (4, .int (Int32.ofInt i))]) rfl (by decide) (fun _ h => h) (z_goto X (t := 1877) rfl rfl (w_widen (ce' := ce + 29) (sl' := sl + 222) (by first | exact Nat.le_add_right _ _ | exact Nat.add_le_add_left (by decide) _ | omega) (by first | exact Nat.le_add_right _ _ | exact Nat.add_le_add_left (by decide) _ | omega) ?_))
  exact WS_lv (lv := [(0, .ref q1), (1, .ref (A 0)), (2, .ref (A 179)), (3, .ref (A 517)), (4, .int (Int32.ofInt i))]) (List.forall_mem_cons.mpr ⟨(List.Mem.tail _ (List.Mem.tail _ (List.Mem.head _))), (List.forall_mem_cons.mpr ⟨(List.Mem.tail _ (List.Mem.tail _ (List.Mem.tail _ (List.Mem.head _)))), (List.forall_mem_cons.mpr ⟨(List.Mem.tail _ (List.Mem.tail _ (List.Mem.tail _ (List.Mem.tail _ (List.Mem.head _))))), (List.forall_mem_cons.mpr ⟨(List.Mem.tail _ (List.Mem.tail _ (List.Mem.tail _ (List.Mem.tail _ (List.Mem.tail _ (List.Mem.head _)))))), (List.forall_mem_cons.mpr ⟨(List.Mem.tail _ (List.Mem.tail _ (List.Mem.tail _ (List.Mem.tail _ (List.Mem.tail _ (List.Mem.tail _ (List.Mem.head _))))))), (fun q h => absurd h List.not_mem_nil)⟩)⟩)⟩)⟩)⟩) (hk A _ Is15 JRLx_s15 JFEQ_s15 (by first | exact oq_f34933ba ws15_89 ws10_89 p1 b6.1 | omega) (by first | exact oq_d7ce4408 ws15_12 ws10_12 p2 | omega) (by first | exact oq_5bcdc35f ws15_74 ws15_0 ws10_74 ws10_0 p3 | omega) (by first | exact oq_5bcdc35f ws15_90 ws15_9 ws10_90 ws10_9 p4 | omega))
theorem lc_10 (G : GX l s0 D tys a0 dT) (GR : RS0 s0) (SF : SF0 s0) (GT : TXs0 s0) {k : kx_T} (X : AX k 350 dT) (E : kL k = l ∧ kS0 k = s0 ∧ kD k = D ∧ kR k = room_1) {q1 L : Nat} {xs : Nat → Int32} (S : SX k q1 L xs) (hL : L ≤ 3072) (I : Bd s) (jR : RLx s) (jFEQ : FEQ s) (p1 : iI s 89 = 1) (p2 : iI s 12 ≤ 8) (p3 : iI s 0 = iI s 74) (p4 : iI s 9 = iI s 90) {i : Int} (hi : 0 ≤ i ∧ i + 6 ≤ (L : Int)) {ce sl : Nat} (hce : ce + 29 ≤ 601024) (hsl : sl + 222 ≤ 7293034) (hk : ∀ (A : Nat → Nat) (t : PS), Bd t → RLx t → FEQ t → iI t 89 = 1 → iI t 12 ≤ 8 → iI t 0 = iI t 74 → iI t 9 = iI t 90 → WS k 1877 [(0, .ref q1), (1, .ref (A 0)), (2, .ref (A 179)), (3, .ref (A 517)), (4, .int (Int32.ofInt i))] [] (Wd A dT t) (ce + 29) (sl + 222)) : WS k 667 [(0, .ref q1), (1, .ref (A 0)), (2, .ref (A 179)), (3, .ref (A 517)), (4, .int (Int32.ofInt i))] [] (Wd A dT s) ce sl := by
  have F : Fm [73] [24, 1460, 229] s s := fm_rf _ _ s
  have b1 := bi_0 I
  have b2 := bi_74 I
  have b3 := bi_9 I
  have b4 := bi_90 I
  have b5 := bi_12 I
  have b6 := bi_89 I
  refine z_aload_n X (x := A 0) rfl (List.Mem.tail _ (List.Mem.head _)) (z_aload_n X (x := q1) rfl (List.Mem.head _) (z_load X (x := i) rfl (List.Mem.tail _ (List.Mem.tail _ (List.Mem.tail _ (List.Mem.tail _ (List.Mem.head _))))) (z_const X rfl (z_add X rfl (z_sld X S hL rfl (show 0 ≤ (i + 1) ∧ (i + 1) < (L : Int) by first | exact sx_in hi (by decide) | omega) ?_)))))
  have sr7 : rng (sc xs (i + 1)) := sc_rng
  refine z_aload_n X (x := q1) rfl (List.Mem.head _) (z_load X (x := i) rfl (List.Mem.tail _ (List.Mem.tail _ (List.Mem.tail _ (List.Mem.tail _ (List.Mem.head _))))) (z_const X rfl (z_add X rfl (z_sld X S hL rfl (show 0 ≤ (i + 2) ∧ (i + 2) < (L : Int) by first | exact sx_in hi (by decide) | omega) ?_))))
  have sr8 : rng (sc xs (i + 2)) := sc_rng
  refine z_aload_n X (x := A 517) rfl (List.Mem.tail _ (List.Mem.tail _ (List.Mem.tail _ (List.Mem.head _)))) (z_callL X (rm := rmN 322) (As := [.ref (A 0), .int (Int32.ofInt (sc xs (i + 1))), .int (Int32.ofInt (sc xs (i + 2))), .ref (A 517)]) (st := []) rfl (by decide) rfl (by rw [E.1, E.2.1, E.2.2.1]; exact lw_limit G I (by omega) (by omega)) ⟨by rw [E.2.2.2]; exact (show 9 + 1 ≤ 2048 by decide), by rw [E.2.2.2]; exact (show 8 + (5 + 11) + 167 ≤ 84000 by decide), by rw [E.2.2.2]; exact (show ce + 2 ≤ 601024 by first | exact rmo_1 hce (by decide) | exact rmo_2 hce (by decide) | omega), by rw [E.2.2.2]; exact (show sl + 12 ≤ 7293034 by first | exact rmo_1 hsl (by decide) | exact rmo_2 hsl (by decide) | omega)⟩ (Nat.le_of_ble_eq_true rfl) (fun vv A s9 hA2 hq => ?_) (fun ee A s9 hA2 hq => ?_))
  rotate_left
  · obtain ⟨Is9, Fs9, e10, hv, hrs9, hps9⟩ := hq; cases hv
  obtain ⟨Is9, Fs9, e10, hv, hrs9, hps9⟩ := hq
  cases hv
  rw [← hA2 0 (by decide)]
  rw [← hA2 179 (by decide)]
  rw [← hA2 517 (by decide)]
  have Gs9 := fm_tq F Fs9 rfl rfl
  have JRLx_s9 : RLx s9 := RLx_fm Fs9 (by decide) jR
  have JFEQ_s9 : FEQ s9 := FEQ_fm Fs9 (by decide) jFEQ
  have ws9_0 : iI s9 0 = iI s 0 := fm_iq Fs9 rfl
  have ws9_74 : iI s9 74 = iI s 74 := fm_iq Fs9 rfl
  have ws9_9 : iI s9 9 = iI s 9 := fm_iq Fs9 rfl
  have ws9_90 : iI s9 90 = iI s 90 := fm_iq Fs9 rfl
  have ws9_12 : iI s9 12 = iI s 12 := fm_iq Fs9 rfl
  have ws9_89 : iI s9 89 = iI s 89 := fm_iq Fs9 rfl
  show WS k 684 [(0, .ref q1), (1, .ref (A 0)), (2, .ref (A 179)), (3, .ref (A 517)), (4, .int (Int32.ofInt i))] [.int (Int32.ofInt e10)] (Wd A dT s9) (ce + 2) (sl + 12)
  refine z_store X (lv' := [(5, .int (Int32.ofInt e10)), (0, .ref q1), (1, .ref (A 0)), (2, .ref (A 179)), (3, .ref (A 517)), (4, .int (Int32.ofInt i))]) rfl (by decide) (fun _ h => h) (z_aload_n X (x := A 179) rfl (List.Mem.tail _ (List.Mem.tail _ (List.Mem.tail _ (List.Mem.head _)))) (z_aload_n X (x := q1) rfl (List.Mem.tail _ (List.Mem.head _)) (z_load X (x := i) rfl (List.Mem.tail _ (List.Mem.tail _ (List.Mem.tail _ (List.Mem.tail _ (List.Mem.tail _ (List.Mem.head _)))))) (z_const X rfl (z_add X rfl (z_sld X S hL rfl (show 0 ≤ (i + 1) ∧ (i + 1) < (L : Int) by first | exact sx_in hi (by decide) | omega) ?_))))))
  have sr11 : rng (sc xs (i + 1)) := sc_rng
  refine z_aload_n X (x := q1) rfl (List.Mem.tail _ (List.Mem.head _)) (z_load X (x := i) rfl (List.Mem.tail _ (List.Mem.tail _ (List.Mem.tail _ (List.Mem.tail _ (List.Mem.tail _ (List.Mem.head _)))))) (z_const X rfl (z_add X rfl (z_sld X S hL rfl (show 0 ≤ (i + 2) ∧ (i + 2) < (L : Int) by first | exact sx_in hi (by decide) | omega) ?_))))
  have sr12 : rng (sc xs (i + 2)) := sc_rng
  refine z_callV X 179 (rm := rmN 236) (As := [.int (Int32.ofInt (sc xs (i + 1))), .int (Int32.ofInt (sc xs (i + 2)))]) (st := []) rfl rfl (by decide) rfl (by rw [E.1, E.2.1, E.2.2.1]; exact k_limit G Is9 (by first | exact ⟨sr11.1, sr11.2⟩ | omega) (by first | exact ⟨sr12.1, sr12.2⟩ | omega)) ⟨by rw [E.2.2.2]; exact (show 7 + 1 ≤ 2048 from oq_4e6106eb), by rw [E.2.2.2]; exact (show 8 + (4 + 11) + 122 ≤ 84000 from oq_ebbf79c1), by rw [E.2.2.2]; exact (show (ce + 2) + 0 ≤ 601024 by omega), by rw [E.2.2.2]; exact (show (sl + 12) + 0 ≤ 7293034 by omega)⟩ (Nat.le_of_ble_eq_true rfl) (fun vv s13 hq => ?_) (fun ee s13 hq => ?_)
  rotate_left
  · obtain ⟨Is13, Fs13, e14, hv, hrs13, hps13⟩ := hq; cases hv
  obtain ⟨Is13, Fs13, e14, hv, hrs13, hps13⟩ := hq
  cases hv
  have Gs13 := fm_tq Gs9 Fs13 rfl rfl
  have JRLx_s13 : RLx s13 := RLx_fm Fs13 (by decide) JRLx_s9
  have JFEQ_s13 : FEQ s13 := FEQ_fm Fs13 (by decide) JFEQ_s9
  have ws13_0 : iI s13 0 = iI s9 0 := fm_iq Fs13 rfl
  have ws13_74 : iI s13 74 = iI s9 74 := fm_iq Fs13 rfl
  have ws13_9 : iI s13 9 = iI s9 9 := fm_iq Fs13 rfl
  have ws13_90 : iI s13 90 = iI s9 90 := fm_iq Fs13 rfl
  have ws13_12 : iI s13 12 = iI s9 12 := fm_iq Fs13 rfl
  have ws13_89 : iI s13 89 = iI s9 89 := fm_iq Fs13 rfl
  have wos13 : iO s13 = iO s9 := fm_o Fs13 (by decide)
  show WS k 702 [(5, .int (Int32.ofInt e10)), (0, .ref q1), (1, .ref (A 0)), (2, .ref (A 179)), (3, .ref (A 517)), (4, .int (Int32.ofInt i))] [.int (Int32.ofInt e14)] (Wd A dT s13) (ce + 2) (sl + 12)
  refine z_store X (lv' := [(6, .int (Int32.ofInt e14)), (5, .int (Int32.ofInt e10)), (0, .ref q1), (1, .ref (A 0)), (2, .ref (A 179)), (3, .ref (A 517)), (4, .int (Int32.ofInt i))]) rfl (by decide) (fun _ h => h) (z_goto X (t := 1877) rfl rfl (w_widen (ce' := ce + 29) (sl' := sl + 222) (by first | exact Nat.le_add_right _ _ | exact Nat.add_le_add_left (by decide) _ | omega) (by first | exact Nat.le_add_right _ _ | exact Nat.add_le_add_left (by decide) _ | omega) ?_))
  exact WS_lv (lv := [(0, .ref q1), (1, .ref (A 0)), (2, .ref (A 179)), (3, .ref (A 517)), (4, .int (Int32.ofInt i))]) (List.forall_mem_cons.mpr ⟨(List.Mem.tail _ (List.Mem.tail _ (List.Mem.head _))), (List.forall_mem_cons.mpr ⟨(List.Mem.tail _ (List.Mem.tail _ (List.Mem.tail _ (List.Mem.head _)))), (List.forall_mem_cons.mpr ⟨(List.Mem.tail _ (List.Mem.tail _ (List.Mem.tail _ (List.Mem.tail _ (List.Mem.head _))))), (List.forall_mem_cons.mpr ⟨(List.Mem.tail _ (List.Mem.tail _ (List.Mem.tail _ (List.Mem.tail _ (List.Mem.tail _ (List.Mem.head _)))))), (List.forall_mem_cons.mpr ⟨(List.Mem.tail _ (List.Mem.tail _ (List.Mem.tail _ (List.Mem.tail _ (List.Mem.tail _ (List.Mem.tail _ (List.Mem.head _))))))), (fun q h => absurd h List.not_mem_nil)⟩)⟩)⟩)⟩)⟩) (hk A _ Is13 JRLx_s13 JFEQ_s13 (by first | exact oq_f34933ba ws13_89 ws9_89 p1 b6.1 | omega) (by first | exact oq_d7ce4408 ws13_12 ws9_12 p2 | omega) (by first | exact oq_5bcdc35f ws13_74 ws13_0 ws9_74 ws9_0 p3 | omega) (by first | exact oq_5bcdc35f ws13_90 ws13_9 ws9_90 ws9_9 p4 | omega))
theorem lc_11 (G : GX l s0 D tys a0 dT) (GR : RS0 s0) (SF : SF0 s0) (GT : TXs0 s0) {k : kx_T} (X : AX k 350 dT) (E : kL k = l ∧ kS0 k = s0 ∧ kD k = D ∧ kR k = room_1) {q1 L : Nat} {xs : Nat → Int32} (S : SX k q1 L xs) (hL : L ≤ 3072) (I : Bd s) (jR : RLx s) (jFEQ : FEQ s) (p1 : iI s 89 = 1) (p2 : iI s 12 ≤ 8) (p3 : iI s 0 = iI s 74) (p4 : iI s 9 = iI s 90) {i : Int} (hi : 0 ≤ i ∧ i + 6 ≤ (L : Int)) {ce sl : Nat} (hce : ce + 29 ≤ 601024) (hsl : sl + 222 ≤ 7293034) (hk : ∀ (A : Nat → Nat) (t : PS), Bd t → RLx t → FEQ t → iI t 89 = 1 → iI t 12 ≤ 8 → iI t 0 = iI t 74 → iI t 9 = iI t 90 → WS k 1877 [(0, .ref q1), (1, .ref (A 0)), (2, .ref (A 179)), (3, .ref (A 517)), (4, .int (Int32.ofInt i))] [] (Wd A dT t) (ce + 29) (sl + 222)) : WS k 707 [(0, .ref q1), (1, .ref (A 0)), (2, .ref (A 179)), (3, .ref (A 517)), (4, .int (Int32.ofInt i))] [] (Wd A dT s) ce sl := by
  have F : Fm [22, 23, 73, 77, 75, 78, 79, 80, 81] [33, 26, 27, 28, 29, 30, 31, 32, 20, 1460, 202, 204, 205, 206, 207, 208, 209, 210, 211, 212, 213, 214, 215, 216, 217, 218, 219, 220, 221, 222, 223, 224, 225, 226, 227, 203, 161, 230] s s := fm_rf _ _ s
  have b1 := bi_0 I
  have b2 := bi_74 I
  have b3 := bi_9 I
  have b4 := bi_90 I
  have b5 := bi_12 I
  have b6 := bi_89 I
  refine z_aload_n X (x := A 0) rfl (List.Mem.tail _ (List.Mem.head _)) (z_aload_n X (x := q1) rfl (List.Mem.head _) (z_load X (x := i) rfl (List.Mem.tail _ (List.Mem.tail _ (List.Mem.tail _ (List.Mem.tail _ (List.Mem.head _))))) (z_const X rfl (z_add X rfl (z_sld X S hL rfl (show 0 ≤ (i + 1) ∧ (i + 1) < (L : Int) by first | exact sx_in hi (by decide) | omega) ?_)))))
  have sr7 : rng (sc xs (i + 1)) := sc_rng
  refine z_aload_n X (x := q1) rfl (List.Mem.head _) (z_load X (x := i) rfl (List.Mem.tail _ (List.Mem.tail _ (List.Mem.tail _ (List.Mem.tail _ (List.Mem.head _))))) (z_const X rfl (z_add X rfl (z_sld X S hL rfl (show 0 ≤ (i + 2) ∧ (i + 2) < (L : Int) by first | exact sx_in hi (by decide) | omega) ?_))))
  have sr8 : rng (sc xs (i + 2)) := sc_rng
  refine z_aload_n X (x := q1) rfl (List.Mem.head _) (z_load X (x := i) rfl (List.Mem.tail _ (List.Mem.tail _ (List.Mem.tail _ (List.Mem.tail _ (List.Mem.head _))))) (z_const X rfl (z_add X rfl (z_sld X S hL rfl (show 0 ≤ (i + 3) ∧ (i + 3) < (L : Int) by first | exact sx_in hi (by decide) | omega) ?_))))
  have sr9 : rng (sc xs (i + 3)) := sc_rng
  refine z_aload_n X (x := A 517) rfl (List.Mem.tail _ (List.Mem.tail _ (List.Mem.tail _ (List.Mem.head _)))) (z_callL X (rm := rmN 323) (As := [.ref (A 0), .int (Int32.ofInt (sc xs (i + 1))), .int (Int32.ofInt (sc xs (i + 2))), .int (Int32.ofInt (sc xs (i + 3))), .ref (A 517)]) (st := []) rfl (by decide) rfl (by rw [E.1, E.2.1, E.2.2.1]; exact lw_hears G I (by omega) (by omega) (by omega)) ⟨by rw [E.2.2.2]; exact (show 11 + 1 ≤ 2048 by decide), by rw [E.2.2.2]; exact (show 8 + (6 + 11) + 229 ≤ 84000 by decide), by rw [E.2.2.2]; exact (show ce + 3 ≤ 601024 by first | exact rmo_1 hce (by decide) | exact rmo_2 hce (by decide) | omega), by rw [E.2.2.2]; exact (show sl + 18 ≤ 7293034 by first | exact rmo_1 hsl (by decide) | exact rmo_2 hsl (by decide) | omega)⟩ (Nat.le_of_ble_eq_true rfl) (fun vv A s10 hA2 hq => ?_) (fun ee A s10 hA2 hq => ?_))
  rotate_left
  · obtain ⟨Is10, Fs10, e11, hv, hrs10, hps10⟩ := hq; cases hv
  obtain ⟨Is10, Fs10, e11, hv, hrs10, hps10⟩ := hq
  cases hv
  rw [← hA2 0 (by decide)]
  rw [← hA2 179 (by decide)]
  rw [← hA2 517 (by decide)]
  have Gs10 := fm_tq F Fs10 rfl rfl
  have JRLx_s10 : RLx s10 := RLx_fm Fs10 (by decide) jR
  have JFEQ_s10 : FEQ s10 := FEQ_fm Fs10 (by decide) jFEQ
  have ws10_0 : iI s10 0 = iI s 0 := fm_iq Fs10 rfl
  have ws10_74 : iI s10 74 = iI s 74 := fm_iq Fs10 rfl
  have ws10_9 : iI s10 9 = iI s 9 := fm_iq Fs10 rfl
  have ws10_90 : iI s10 90 = iI s 90 := fm_iq Fs10 rfl
  have ws10_12 : iI s10 12 = iI s 12 := fm_iq Fs10 rfl
  have ws10_89 : iI s10 89 = iI s 89 := fm_iq Fs10 rfl
  show WS k 730 [(0, .ref q1), (1, .ref (A 0)), (2, .ref (A 179)), (3, .ref (A 517)), (4, .int (Int32.ofInt i))] [.int (Int32.ofInt e11)] (Wd A dT s10) (ce + 3) (sl + 18)
  refine z_store X (lv' := [(5, .int (Int32.ofInt e11)), (0, .ref q1), (1, .ref (A 0)), (2, .ref (A 179)), (3, .ref (A 517)), (4, .int (Int32.ofInt i))]) rfl (by decide) (fun _ h => h) (z_aload_n X (x := A 179) rfl (List.Mem.tail _ (List.Mem.tail _ (List.Mem.tail _ (List.Mem.head _)))) (z_aload_n X (x := q1) rfl (List.Mem.tail _ (List.Mem.head _)) (z_load X (x := i) rfl (List.Mem.tail _ (List.Mem.tail _ (List.Mem.tail _ (List.Mem.tail _ (List.Mem.tail _ (List.Mem.head _)))))) (z_const X rfl (z_add X rfl (z_sld X S hL rfl (show 0 ≤ (i + 1) ∧ (i + 1) < (L : Int) by first | exact sx_in hi (by decide) | omega) ?_))))))
  have sr12 : rng (sc xs (i + 1)) := sc_rng
  refine z_aload_n X (x := q1) rfl (List.Mem.tail _ (List.Mem.head _)) (z_load X (x := i) rfl (List.Mem.tail _ (List.Mem.tail _ (List.Mem.tail _ (List.Mem.tail _ (List.Mem.tail _ (List.Mem.head _)))))) (z_const X rfl (z_add X rfl (z_sld X S hL rfl (show 0 ≤ (i + 2) ∧ (i + 2) < (L : Int) by first | exact sx_in hi (by decide) | omega) ?_))))
  have sr13 : rng (sc xs (i + 2)) := sc_rng
  refine z_aload_n X (x := q1) rfl (List.Mem.tail _ (List.Mem.head _)) (z_load X (x := i) rfl (List.Mem.tail _ (List.Mem.tail _ (List.Mem.tail _ (List.Mem.tail _ (List.Mem.tail _ (List.Mem.head _)))))) (z_const X rfl (z_add X rfl (z_sld X S hL rfl (show 0 ≤ (i + 3) ∧ (i + 3) < (L : Int) by first | exact sx_in hi (by decide) | omega) ?_))))
  have sr14 : rng (sc xs (i + 3)) := sc_rng
  refine z_callV X 179 (rm := rmN 237) (As := [.int (Int32.ofInt (sc xs (i + 1))), .int (Int32.ofInt (sc xs (i + 2))), .int (Int32.ofInt (sc xs (i + 3)))]) (st := []) rfl rfl (by decide) rfl (by rw [E.1, E.2.1, E.2.2.1]; exact k_hears G Is10 JRLx_s10 (by first | exact ⟨sr12.1, sr12.2⟩ | omega) (by first | exact ⟨sr13.1, sr13.2⟩ | omega) (by first | exact ⟨sr14.1, sr14.2⟩ | omega)) ⟨by rw [E.2.2.2]; exact (show 37 + 1 ≤ 2048 from oq_2596b3cb), by rw [E.2.2.2]; exact (show 8 + (5 + 11) + 1578 ≤ 84000 from oq_93887b04), by rw [E.2.2.2]; exact (show (ce + 3) + 0 ≤ 601024 by omega), by rw [E.2.2.2]; exact (show (sl + 18) + 0 ≤ 7293034 by omega)⟩ (Nat.le_of_ble_eq_true rfl) (fun vv s15 hq => ?_) (fun ee s15 hq => ?_)
  rotate_left
  · obtain ⟨Is15, Fs15, JRLx_s15, e16, hv, hrs15, hps15⟩ := hq; cases hv
  obtain ⟨Is15, Fs15, JRLx_s15, e16, hv, hrs15, hps15⟩ := hq
  cases hv
  have Gs15 := fm_tq Gs10 Fs15 rfl rfl
  have JRLx_s15 : RLx s15 := RLx_fm Fs15 (by decide) JRLx_s10
  have JFEQ_s15 : FEQ s15 := FEQ_fm Fs15 (by decide) JFEQ_s10
  have ws15_0 : iI s15 0 = iI s10 0 := fm_iq Fs15 rfl
  have ws15_74 : iI s15 74 = iI s10 74 := fm_iq Fs15 rfl
  have ws15_9 : iI s15 9 = iI s10 9 := fm_iq Fs15 rfl
  have ws15_90 : iI s15 90 = iI s10 90 := fm_iq Fs15 rfl
  have ws15_12 : iI s15 12 = iI s10 12 := fm_iq Fs15 rfl
  have ws15_89 : iI s15 89 = iI s10 89 := fm_iq Fs15 rfl
  have wos15 : iO s15 = iO s10 := fm_o Fs15 (by decide)
  show WS k 754 [(5, .int (Int32.ofInt e11)), (0, .ref q1), (1, .ref (A 0)), (2, .ref (A 179)), (3, .ref (A 517)), (4, .int (Int32.ofInt i))] [.int (Int32.ofInt e16)] (Wd A dT s15) (ce + 3) (sl + 18)
  refine z_store X (lv' := [(6, .int (Int32.ofInt e16)), (5, .int (Int32.ofInt e11)), (0, .ref q1), (1, .ref (A 0)), (2, .ref (A 179)), (3, .ref (A 517)), (4, .int (Int32.ofInt i))]) rfl (by decide) (fun _ h => h) (z_goto X (t := 1877) rfl rfl (w_widen (ce' := ce + 29) (sl' := sl + 222) (by first | exact Nat.le_add_right _ _ | exact Nat.add_le_add_left (by decide) _ | omega) (by first | exact Nat.le_add_right _ _ | exact Nat.add_le_add_left (by decide) _ | omega) ?_))
  exact WS_lv (lv := [(0, .ref q1), (1, .ref (A 0)), (2, .ref (A 179)), (3, .ref (A 517)), (4, .int (Int32.ofInt i))]) (List.forall_mem_cons.mpr ⟨(List.Mem.tail _ (List.Mem.tail _ (List.Mem.head _))), (List.forall_mem_cons.mpr ⟨(List.Mem.tail _ (List.Mem.tail _ (List.Mem.tail _ (List.Mem.head _)))), (List.forall_mem_cons.mpr ⟨(List.Mem.tail _ (List.Mem.tail _ (List.Mem.tail _ (List.Mem.tail _ (List.Mem.head _))))), (List.forall_mem_cons.mpr ⟨(List.Mem.tail _ (List.Mem.tail _ (List.Mem.tail _ (List.Mem.tail _ (List.Mem.tail _ (List.Mem.head _)))))), (List.forall_mem_cons.mpr ⟨(List.Mem.tail _ (List.Mem.tail _ (List.Mem.tail _ (List.Mem.tail _ (List.Mem.tail _ (List.Mem.tail _ (List.Mem.head _))))))), (fun q h => absurd h List.not_mem_nil)⟩)⟩)⟩)⟩)⟩) (hk A _ Is15 JRLx_s15 JFEQ_s15 (by first | exact oq_f34933ba ws15_89 ws10_89 p1 b6.1 | omega) (by first | exact oq_d7ce4408 ws15_12 ws10_12 p2 | omega) (by first | exact oq_5bcdc35f ws15_74 ws15_0 ws10_74 ws10_0 p3 | omega) (by first | exact oq_5bcdc35f ws15_90 ws15_9 ws10_90 ws10_9 p4 | omega))
theorem lc_12 (G : GX l s0 D tys a0 dT) (GR : RS0 s0) (SF : SF0 s0) (GT : TXs0 s0) {k : kx_T} (X : AX k 350 dT) (E : kL k = l ∧ kS0 k = s0 ∧ kD k = D ∧ kR k = room_1) {q1 L : Nat} {xs : Nat → Int32} (S : SX k q1 L xs) (hL : L ≤ 3072) (I : Bd s) (jR : RLx s) (jFEQ : FEQ s) (p1 : iI s 89 = 1) (p2 : iI s 12 ≤ 8) (p3 : iI s 0 = iI s 74) (p4 : iI s 9 = iI s 90) {i : Int} (hi : 0 ≤ i ∧ i + 6 ≤ (L : Int)) {ce sl : Nat} (hce : ce + 29 ≤ 601024) (hsl : sl + 222 ≤ 7293034) (hk : ∀ (A : Nat → Nat) (t : PS), Bd t → RLx t → FEQ t → iI t 89 = 1 → iI t 12 ≤ 8 → iI t 0 = iI t 74 → iI t 9 = iI t 90 → WS k 1877 [(0, .ref q1), (1, .ref (A 0)), (2, .ref (A 179)), (3, .ref (A 517)), (4, .int (Int32.ofInt i))] [] (Wd A dT t) (ce + 29) (sl + 222)) : WS k 759 [(0, .ref q1), (1, .ref (A 0)), (2, .ref (A 179)), (3, .ref (A 517)), (4, .int (Int32.ofInt i))] [] (Wd A dT s) ce sl := by
  have F : Fm [22, 23, 24, 73, 77, 75, 78, 79, 80, 81] [33, 26, 27, 28, 29, 30, 31, 32, 20, 1460, 202, 204, 205, 206, 207, 208, 209, 210, 211, 212, 213, 214, 215, 216, 217, 218, 219, 220, 221, 222, 223, 224, 225, 226, 227, 203, 161, 230] s s := fm_rf _ _ s
  have b1 := bi_0 I
  have b2 := bi_74 I
  have b3 := bi_9 I
  have b4 := bi_90 I
  have b5 := bi_12 I
  have b6 := bi_89 I
  refine z_aload_n X (x := A 0) rfl (List.Mem.tail _ (List.Mem.head _)) (z_aload_n X (x := q1) rfl (List.Mem.head _) (z_load X (x := i) rfl (List.Mem.tail _ (List.Mem.tail _ (List.Mem.tail _ (List.Mem.tail _ (List.Mem.head _))))) (z_const X rfl (z_add X rfl (z_sld X S hL rfl (show 0 ≤ (i + 1) ∧ (i + 1) < (L : Int) by first | exact sx_in hi (by decide) | omega) ?_)))))
  have sr7 : rng (sc xs (i + 1)) := sc_rng
  refine z_aload_n X (x := q1) rfl (List.Mem.head _) (z_load X (x := i) rfl (List.Mem.tail _ (List.Mem.tail _ (List.Mem.tail _ (List.Mem.tail _ (List.Mem.head _))))) (z_const X rfl (z_add X rfl (z_sld X S hL rfl (show 0 ≤ (i + 2) ∧ (i + 2) < (L : Int) by first | exact sx_in hi (by decide) | omega) ?_))))
  have sr8 : rng (sc xs (i + 2)) := sc_rng
  refine z_aload_n X (x := A 517) rfl (List.Mem.tail _ (List.Mem.tail _ (List.Mem.tail _ (List.Mem.head _)))) (z_callL X (rm := rmN 324) (As := [.ref (A 0), .int (Int32.ofInt (sc xs (i + 1))), .int (Int32.ofInt (sc xs (i + 2))), .ref (A 517)]) (st := []) rfl (by decide) rfl (by rw [E.1, E.2.1, E.2.2.1]; exact lw_peak G I (by omega) (by omega)) ⟨by rw [E.2.2.2]; exact (show 11 + 1 ≤ 2048 by decide), by rw [E.2.2.2]; exact (show 8 + (5 + 11) + 228 ≤ 84000 by decide), by rw [E.2.2.2]; exact (show ce + 2 ≤ 601024 by first | exact rmo_1 hce (by decide) | exact rmo_2 hce (by decide) | omega), by rw [E.2.2.2]; exact (show sl + 12 ≤ 7293034 by first | exact rmo_1 hsl (by decide) | exact rmo_2 hsl (by decide) | omega)⟩ (Nat.le_of_ble_eq_true rfl) (fun vv A s9 hA2 hq => ?_) (fun ee A s9 hA2 hq => ?_))
  rotate_left
  · obtain ⟨Is9, Fs9, e10, hv, hrs9, hps9⟩ := hq; cases hv
  obtain ⟨Is9, Fs9, e10, hv, hrs9, hps9⟩ := hq
  cases hv
  rw [← hA2 0 (by decide)]
  rw [← hA2 179 (by decide)]
  rw [← hA2 517 (by decide)]
  have Gs9 := fm_tq F Fs9 rfl rfl
  have JRLx_s9 : RLx s9 := RLx_fm Fs9 (by decide) jR
  have JFEQ_s9 : FEQ s9 := FEQ_fm Fs9 (by decide) jFEQ
  have ws9_0 : iI s9 0 = iI s 0 := fm_iq Fs9 rfl
  have ws9_74 : iI s9 74 = iI s 74 := fm_iq Fs9 rfl
  have ws9_9 : iI s9 9 = iI s 9 := fm_iq Fs9 rfl
  have ws9_90 : iI s9 90 = iI s 90 := fm_iq Fs9 rfl
  have ws9_12 : iI s9 12 = iI s 12 := fm_iq Fs9 rfl
  have ws9_89 : iI s9 89 = iI s 89 := fm_iq Fs9 rfl
  show WS k 776 [(0, .ref q1), (1, .ref (A 0)), (2, .ref (A 179)), (3, .ref (A 517)), (4, .int (Int32.ofInt i))] [.int (Int32.ofInt e10)] (Wd A dT s9) (ce + 2) (sl + 12)
  refine z_store X (lv' := [(5, .int (Int32.ofInt e10)), (0, .ref q1), (1, .ref (A 0)), (2, .ref (A 179)), (3, .ref (A 517)), (4, .int (Int32.ofInt i))]) rfl (by decide) (fun _ h => h) (z_aload_n X (x := A 179) rfl (List.Mem.tail _ (List.Mem.tail _ (List.Mem.tail _ (List.Mem.head _)))) (z_aload_n X (x := q1) rfl (List.Mem.tail _ (List.Mem.head _)) (z_load X (x := i) rfl (List.Mem.tail _ (List.Mem.tail _ (List.Mem.tail _ (List.Mem.tail _ (List.Mem.tail _ (List.Mem.head _)))))) (z_const X rfl (z_add X rfl (z_sld X S hL rfl (show 0 ≤ (i + 1) ∧ (i + 1) < (L : Int) by first | exact sx_in hi (by decide) | omega) ?_))))))
  have sr11 : rng (sc xs (i + 1)) := sc_rng
  refine z_aload_n X (x := q1) rfl (List.Mem.tail _ (List.Mem.head _)) (z_load X (x := i) rfl (List.Mem.tail _ (List.Mem.tail _ (List.Mem.tail _ (List.Mem.tail _ (List.Mem.tail _ (List.Mem.head _)))))) (z_const X rfl (z_add X rfl (z_sld X S hL rfl (show 0 ≤ (i + 2) ∧ (i + 2) < (L : Int) by first | exact sx_in hi (by decide) | omega) ?_))))
  have sr12 : rng (sc xs (i + 2)) := sc_rng
  refine z_callV X 179 (rm := rmN 238) (As := [.int (Int32.ofInt (sc xs (i + 1))), .int (Int32.ofInt (sc xs (i + 2)))]) (st := []) rfl rfl (by decide) rfl (by rw [E.1, E.2.1, E.2.2.1]; exact k_peak G Is9 JRLx_s9 (by first | exact ⟨sr11.1, sr11.2⟩ | omega) (by first | exact ⟨sr12.1, sr12.2⟩ | omega)) ⟨by rw [E.2.2.2]; exact (show 39 + 1 ≤ 2048 from oq_dead3895), by rw [E.2.2.2]; exact (show 8 + (5 + 11) + 1622 ≤ 84000 from oq_16841511), by rw [E.2.2.2]; exact (show (ce + 2) + 0 ≤ 601024 by omega), by rw [E.2.2.2]; exact (show (sl + 12) + 0 ≤ 7293034 by omega)⟩ (Nat.le_of_ble_eq_true rfl) (fun vv s13 hq => ?_) (fun ee s13 hq => ?_)
  rotate_left
  · obtain ⟨Is13, Fs13, JRLx_s13, e14, hv, hrs13, hps13⟩ := hq; cases hv
  obtain ⟨Is13, Fs13, JRLx_s13, e14, hv, hrs13, hps13⟩ := hq
  cases hv
  have Gs13 := fm_tq Gs9 Fs13 rfl rfl
  have JRLx_s13 : RLx s13 := RLx_fm Fs13 (by decide) JRLx_s9
  have JFEQ_s13 : FEQ s13 := FEQ_fm Fs13 (by decide) JFEQ_s9
  have ws13_0 : iI s13 0 = iI s9 0 := fm_iq Fs13 rfl
  have ws13_74 : iI s13 74 = iI s9 74 := fm_iq Fs13 rfl
  have ws13_9 : iI s13 9 = iI s9 9 := fm_iq Fs13 rfl
  have ws13_90 : iI s13 90 = iI s9 90 := fm_iq Fs13 rfl
  have ws13_12 : iI s13 12 = iI s9 12 := fm_iq Fs13 rfl
  have ws13_89 : iI s13 89 = iI s9 89 := fm_iq Fs13 rfl
  have wos13 : iO s13 = iO s9 := fm_o Fs13 (by decide)
  show WS k 794 [(5, .int (Int32.ofInt e10)), (0, .ref q1), (1, .ref (A 0)), (2, .ref (A 179)), (3, .ref (A 517)), (4, .int (Int32.ofInt i))] [.int (Int32.ofInt e14)] (Wd A dT s13) (ce + 2) (sl + 12)
  refine z_store X (lv' := [(6, .int (Int32.ofInt e14)), (5, .int (Int32.ofInt e10)), (0, .ref q1), (1, .ref (A 0)), (2, .ref (A 179)), (3, .ref (A 517)), (4, .int (Int32.ofInt i))]) rfl (by decide) (fun _ h => h) (z_goto X (t := 1877) rfl rfl (w_widen (ce' := ce + 29) (sl' := sl + 222) (by first | exact Nat.le_add_right _ _ | exact Nat.add_le_add_left (by decide) _ | omega) (by first | exact Nat.le_add_right _ _ | exact Nat.add_le_add_left (by decide) _ | omega) ?_))
  exact WS_lv (lv := [(0, .ref q1), (1, .ref (A 0)), (2, .ref (A 179)), (3, .ref (A 517)), (4, .int (Int32.ofInt i))]) (List.forall_mem_cons.mpr ⟨(List.Mem.tail _ (List.Mem.tail _ (List.Mem.head _))), (List.forall_mem_cons.mpr ⟨(List.Mem.tail _ (List.Mem.tail _ (List.Mem.tail _ (List.Mem.head _)))), (List.forall_mem_cons.mpr ⟨(List.Mem.tail _ (List.Mem.tail _ (List.Mem.tail _ (List.Mem.tail _ (List.Mem.head _))))), (List.forall_mem_cons.mpr ⟨(List.Mem.tail _ (List.Mem.tail _ (List.Mem.tail _ (List.Mem.tail _ (List.Mem.tail _ (List.Mem.head _)))))), (List.forall_mem_cons.mpr ⟨(List.Mem.tail _ (List.Mem.tail _ (List.Mem.tail _ (List.Mem.tail _ (List.Mem.tail _ (List.Mem.tail _ (List.Mem.head _))))))), (fun q h => absurd h List.not_mem_nil)⟩)⟩)⟩)⟩)⟩) (hk A _ Is13 JRLx_s13 JFEQ_s13 (by first | exact oq_f34933ba ws13_89 ws9_89 p1 b6.1 | omega) (by first | exact oq_d7ce4408 ws13_12 ws9_12 p2 | omega) (by first | exact oq_5bcdc35f ws13_74 ws13_0 ws9_74 ws9_0 p3 | omega) (by first | exact oq_5bcdc35f ws13_90 ws13_9 ws9_90 ws9_9 p4 | omega))
theorem lc_13 (G : GX l s0 D tys a0 dT) (GR : RS0 s0) (SF : SF0 s0) (GT : TXs0 s0) {k : kx_T} (X : AX k 350 dT) (E : kL k = l ∧ kS0 k = s0 ∧ kD k = D ∧ kR k = room_1) {q1 L : Nat} {xs : Nat → Int32} (S : SX k q1 L xs) (hL : L ≤ 3072) (I : Bd s) (jR : RLx s) (jFEQ : FEQ s) (p1 : iI s 89 = 1) (p2 : iI s 12 ≤ 8) (p3 : iI s 0 = iI s 74) (p4 : iI s 9 = iI s 90) {i : Int} (hi : 0 ≤ i ∧ i + 6 ≤ (L : Int)) {ce sl : Nat} (hce : ce + 29 ≤ 601024) (hsl : sl + 222 ≤ 7293034) (hk : ∀ (A : Nat → Nat) (t : PS), Bd t → RLx t → FEQ t → iI t 89 = 1 → iI t 12 ≤ 8 → iI t 0 = iI t 74 → iI t 9 = iI t 90 → WS k 1877 [(0, .ref q1), (1, .ref (A 0)), (2, .ref (A 179)), (3, .ref (A 517)), (4, .int (Int32.ofInt i))] [] (Wd A dT t) (ce + 29) (sl + 222)) : WS k 799 [(0, .ref q1), (1, .ref (A 0)), (2, .ref (A 179)), (3, .ref (A 517)), (4, .int (Int32.ofInt i))] [] (Wd A dT s) ce sl := by
  have F : Fm [73] [1460, 231, 232, 230] s s := fm_rf _ _ s
  have b1 := bi_0 I
  have b2 := bi_74 I
  have b3 := bi_9 I
  have b4 := bi_90 I
  have b5 := bi_12 I
  have b6 := bi_89 I
  refine z_aload_n X (x := A 0) rfl (List.Mem.tail _ (List.Mem.head _)) (z_aload_n X (x := q1) rfl (List.Mem.head _) (z_load X (x := i) rfl (List.Mem.tail _ (List.Mem.tail _ (List.Mem.tail _ (List.Mem.tail _ (List.Mem.head _))))) (z_const X rfl (z_add X rfl (z_sld X S hL rfl (show 0 ≤ (i + 1) ∧ (i + 1) < (L : Int) by first | exact sx_in hi (by decide) | omega) ?_)))))
  have sr7 : rng (sc xs (i + 1)) := sc_rng
  refine z_aload_n X (x := A 517) rfl (List.Mem.tail _ (List.Mem.tail _ (List.Mem.tail _ (List.Mem.head _)))) (z_callL X (rm := rmN 325) (As := [.ref (A 0), .int (Int32.ofInt (sc xs (i + 1))), .ref (A 517)]) (st := []) rfl (by decide) rfl (by rw [E.1, E.2.1, E.2.2.1]; exact lw_whole G I (by omega)) ⟨by rw [E.2.2.2]; exact (show 10 + 1 ≤ 2048 by decide), by rw [E.2.2.2]; exact (show 8 + (4 + 11) + 203 ≤ 84000 by decide), by rw [E.2.2.2]; exact (show ce + 1 ≤ 601024 by first | exact rmo_1 hce (by decide) | exact rmo_2 hce (by decide) | omega), by rw [E.2.2.2]; exact (show sl + 6 ≤ 7293034 by first | exact rmo_1 hsl (by decide) | exact rmo_2 hsl (by decide) | omega)⟩ (Nat.le_of_ble_eq_true rfl) (fun vv A s8 hA2 hq => ?_) (fun ee A s8 hA2 hq => ?_))
  rotate_left
  · obtain ⟨Is8, Fs8, e9, hv, hrs8, hps8⟩ := hq; cases hv
  obtain ⟨Is8, Fs8, e9, hv, hrs8, hps8⟩ := hq
  cases hv
  rw [← hA2 0 (by decide)]
  rw [← hA2 179 (by decide)]
  rw [← hA2 517 (by decide)]
  have Gs8 := fm_tq F Fs8 rfl rfl
  have JRLx_s8 : RLx s8 := RLx_fm Fs8 (by decide) jR
  have JFEQ_s8 : FEQ s8 := FEQ_fm Fs8 (by decide) jFEQ
  have ws8_0 : iI s8 0 = iI s 0 := fm_iq Fs8 rfl
  have ws8_74 : iI s8 74 = iI s 74 := fm_iq Fs8 rfl
  have ws8_9 : iI s8 9 = iI s 9 := fm_iq Fs8 rfl
  have ws8_90 : iI s8 90 = iI s 90 := fm_iq Fs8 rfl
  have ws8_12 : iI s8 12 = iI s 12 := fm_iq Fs8 rfl
  have ws8_89 : iI s8 89 = iI s 89 := fm_iq Fs8 rfl
  show WS k 810 [(0, .ref q1), (1, .ref (A 0)), (2, .ref (A 179)), (3, .ref (A 517)), (4, .int (Int32.ofInt i))] [.int (Int32.ofInt e9)] (Wd A dT s8) (ce + 1) (sl + 6)
  refine z_store X (lv' := [(5, .int (Int32.ofInt e9)), (0, .ref q1), (1, .ref (A 0)), (2, .ref (A 179)), (3, .ref (A 517)), (4, .int (Int32.ofInt i))]) rfl (by decide) (fun _ h => h) (z_aload_n X (x := A 179) rfl (List.Mem.tail _ (List.Mem.tail _ (List.Mem.tail _ (List.Mem.head _)))) (z_aload_n X (x := q1) rfl (List.Mem.tail _ (List.Mem.head _)) (z_load X (x := i) rfl (List.Mem.tail _ (List.Mem.tail _ (List.Mem.tail _ (List.Mem.tail _ (List.Mem.tail _ (List.Mem.head _)))))) (z_const X rfl (z_add X rfl (z_sld X S hL rfl (show 0 ≤ (i + 1) ∧ (i + 1) < (L : Int) by first | exact sx_in hi (by decide) | omega) ?_))))))
  have sr10 : rng (sc xs (i + 1)) := sc_rng
  refine z_callV X 179 (rm := rmN 241) (As := [.int (Int32.ofInt (sc xs (i + 1)))]) (st := []) rfl rfl (by decide) rfl (by rw [E.1, E.2.1, E.2.2.1]; exact k_whole G Is8 (by first | exact ⟨sr10.1, sr10.2⟩ | omega)) ⟨by rw [E.2.2.2]; exact (show 9 + 1 ≤ 2048 from oq_1d601463), by rw [E.2.2.2]; exact (show 8 + (2 + 11) + 171 ≤ 84000 from oq_485672f1), by rw [E.2.2.2]; exact (show (ce + 1) + 0 ≤ 601024 by omega), by rw [E.2.2.2]; exact (show (sl + 6) + 0 ≤ 7293034 by omega)⟩ (Nat.le_of_ble_eq_true rfl) (fun vv s11 hq => ?_) (fun ee s11 hq => ?_)
  rotate_left
  · obtain ⟨Is11, Fs11, e12, hv, hrs11, hps11⟩ := hq; cases hv
  obtain ⟨Is11, Fs11, e12, hv, hrs11, hps11⟩ := hq
  cases hv
  have Gs11 := fm_tq Gs8 Fs11 rfl rfl
  have JRLx_s11 : RLx s11 := RLx_fm Fs11 (by decide) JRLx_s8
  have JFEQ_s11 : FEQ s11 := FEQ_fm Fs11 (by decide) JFEQ_s8
  have ws11_0 : iI s11 0 = iI s8 0 := fm_iq Fs11 rfl
  have ws11_74 : iI s11 74 = iI s8 74 := fm_iq Fs11 rfl
  have ws11_9 : iI s11 9 = iI s8 9 := fm_iq Fs11 rfl
  have ws11_90 : iI s11 90 = iI s8 90 := fm_iq Fs11 rfl
  have ws11_12 : iI s11 12 = iI s8 12 := fm_iq Fs11 rfl
  have ws11_89 : iI s11 89 = iI s8 89 := fm_iq Fs11 rfl
  have wos11 : iO s11 = iO s8 := fm_o Fs11 (by decide)
  show WS k 822 [(5, .int (Int32.ofInt e9)), (0, .ref q1), (1, .ref (A 0)), (2, .ref (A 179)), (3, .ref (A 517)), (4, .int (Int32.ofInt i))] [.int (Int32.ofInt e12)] (Wd A dT s11) (ce + 1) (sl + 6)
  refine z_store X (lv' := [(6, .int (Int32.ofInt e12)), (5, .int (Int32.ofInt e9)), (0, .ref q1), (1, .ref (A 0)), (2, .ref (A 179)), (3, .ref (A 517)), (4, .int (Int32.ofInt i))]) rfl (by decide) (fun _ h => h) (z_goto X (t := 1877) rfl rfl (w_widen (ce' := ce + 29) (sl' := sl + 222) (by first | exact Nat.le_add_right _ _ | exact Nat.add_le_add_left (by decide) _ | omega) (by first | exact Nat.le_add_right _ _ | exact Nat.add_le_add_left (by decide) _ | omega) ?_))
  exact WS_lv (lv := [(0, .ref q1), (1, .ref (A 0)), (2, .ref (A 179)), (3, .ref (A 517)), (4, .int (Int32.ofInt i))]) (List.forall_mem_cons.mpr ⟨(List.Mem.tail _ (List.Mem.tail _ (List.Mem.head _))), (List.forall_mem_cons.mpr ⟨(List.Mem.tail _ (List.Mem.tail _ (List.Mem.tail _ (List.Mem.head _)))), (List.forall_mem_cons.mpr ⟨(List.Mem.tail _ (List.Mem.tail _ (List.Mem.tail _ (List.Mem.tail _ (List.Mem.head _))))), (List.forall_mem_cons.mpr ⟨(List.Mem.tail _ (List.Mem.tail _ (List.Mem.tail _ (List.Mem.tail _ (List.Mem.tail _ (List.Mem.head _)))))), (List.forall_mem_cons.mpr ⟨(List.Mem.tail _ (List.Mem.tail _ (List.Mem.tail _ (List.Mem.tail _ (List.Mem.tail _ (List.Mem.tail _ (List.Mem.head _))))))), (fun q h => absurd h List.not_mem_nil)⟩)⟩)⟩)⟩)⟩) (hk A _ Is11 JRLx_s11 JFEQ_s11 (by first | exact oq_f34933ba ws11_89 ws8_89 p1 b6.1 | omega) (by first | exact oq_d7ce4408 ws11_12 ws8_12 p2 | omega) (by first | exact oq_5bcdc35f ws11_74 ws11_0 ws8_74 ws8_0 p3 | omega) (by first | exact oq_5bcdc35f ws11_90 ws11_9 ws8_90 ws8_9 p4 | omega))
theorem lc_14 (G : GX l s0 D tys a0 dT) (GR : RS0 s0) (SF : SF0 s0) (GT : TXs0 s0) {k : kx_T} (X : AX k 350 dT) (E : kL k = l ∧ kS0 k = s0 ∧ kD k = D ∧ kR k = room_1) {q1 L : Nat} {xs : Nat → Int32} (S : SX k q1 L xs) (hL : L ≤ 3072) (I : Bd s) (jR : RLx s) (jFEQ : FEQ s) (p1 : iI s 89 = 1) (p2 : iI s 12 ≤ 8) (p3 : iI s 0 = iI s 74) (p4 : iI s 9 = iI s 90) {i : Int} (hi : 0 ≤ i ∧ i + 6 ≤ (L : Int)) {ce sl : Nat} (hce : ce + 29 ≤ 601024) (hsl : sl + 222 ≤ 7293034) (hk : ∀ (A : Nat → Nat) (t : PS), Bd t → RLx t → FEQ t → iI t 89 = 1 → iI t 12 ≤ 8 → iI t 0 = iI t 74 → iI t 9 = iI t 90 → WS k 1877 [(0, .ref q1), (1, .ref (A 0)), (2, .ref (A 179)), (3, .ref (A 517)), (4, .int (Int32.ofInt i))] [] (Wd A dT t) (ce + 29) (sl + 222)) : WS k 827 [(0, .ref q1), (1, .ref (A 0)), (2, .ref (A 179)), (3, .ref (A 517)), (4, .int (Int32.ofInt i))] [] (Wd A dT s) ce sl := by
  have F : Fm [73] [1460, 231, 232, 230] s s := fm_rf _ _ s
  have b1 := bi_0 I
  have b2 := bi_74 I
  have b3 := bi_9 I
  have b4 := bi_90 I
  have b5 := bi_12 I
  have b6 := bi_89 I
  refine z_aload_n X (x := A 0) rfl (List.Mem.tail _ (List.Mem.head _)) (z_aload_n X (x := q1) rfl (List.Mem.head _) (z_load X (x := i) rfl (List.Mem.tail _ (List.Mem.tail _ (List.Mem.tail _ (List.Mem.tail _ (List.Mem.head _))))) (z_const X rfl (z_add X rfl (z_sld X S hL rfl (show 0 ≤ (i + 1) ∧ (i + 1) < (L : Int) by first | exact sx_in hi (by decide) | omega) ?_)))))
  have sr7 : rng (sc xs (i + 1)) := sc_rng
  refine z_aload_n X (x := q1) rfl (List.Mem.head _) (z_load X (x := i) rfl (List.Mem.tail _ (List.Mem.tail _ (List.Mem.tail _ (List.Mem.tail _ (List.Mem.head _))))) (z_const X rfl (z_add X rfl (z_sld X S hL rfl (show 0 ≤ (i + 2) ∧ (i + 2) < (L : Int) by first | exact sx_in hi (by decide) | omega) ?_))))
  have sr8 : rng (sc xs (i + 2)) := sc_rng
  refine z_aload_n X (x := A 517) rfl (List.Mem.tail _ (List.Mem.tail _ (List.Mem.tail _ (List.Mem.head _)))) (z_callL X (rm := rmN 326) (As := [.ref (A 0), .int (Int32.ofInt (sc xs (i + 1))), .int (Int32.ofInt (sc xs (i + 2))), .ref (A 517)]) (st := []) rfl (by decide) rfl (by rw [E.1, E.2.1, E.2.2.1]; exact lw_neck G I (by omega) (by omega)) ⟨by rw [E.2.2.2]; exact (show 11 + 1 ≤ 2048 by decide), by rw [E.2.2.2]; exact (show 8 + (5 + 11) + 235 ≤ 84000 by decide), by rw [E.2.2.2]; exact (show ce + 1 ≤ 601024 by first | exact rmo_1 hce (by decide) | exact rmo_2 hce (by decide) | omega), by rw [E.2.2.2]; exact (show sl + 6 ≤ 7293034 by first | exact rmo_1 hsl (by decide) | exact rmo_2 hsl (by decide) | omega)⟩ (Nat.le_of_ble_eq_true rfl) (fun vv A s9 hA2 hq => ?_) (fun ee A s9 hA2 hq => ?_))
  rotate_left
  · obtain ⟨Is9, Fs9, e10, hv, hrs9, hps9⟩ := hq; cases hv
  obtain ⟨Is9, Fs9, e10, hv, hrs9, hps9⟩ := hq
  cases hv
  rw [← hA2 0 (by decide)]
  rw [← hA2 179 (by decide)]
  rw [← hA2 517 (by decide)]
  have Gs9 := fm_tq F Fs9 rfl rfl
  have JRLx_s9 : RLx s9 := RLx_fm Fs9 (by decide) jR
  have JFEQ_s9 : FEQ s9 := FEQ_fm Fs9 (by decide) jFEQ
  have ws9_0 : iI s9 0 = iI s 0 := fm_iq Fs9 rfl
  have ws9_74 : iI s9 74 = iI s 74 := fm_iq Fs9 rfl
  have ws9_9 : iI s9 9 = iI s 9 := fm_iq Fs9 rfl
  have ws9_90 : iI s9 90 = iI s 90 := fm_iq Fs9 rfl
  have ws9_12 : iI s9 12 = iI s 12 := fm_iq Fs9 rfl
  have ws9_89 : iI s9 89 = iI s 89 := fm_iq Fs9 rfl
  show WS k 844 [(0, .ref q1), (1, .ref (A 0)), (2, .ref (A 179)), (3, .ref (A 517)), (4, .int (Int32.ofInt i))] [.int (Int32.ofInt e10)] (Wd A dT s9) (ce + 1) (sl + 6)
  refine z_store X (lv' := [(5, .int (Int32.ofInt e10)), (0, .ref q1), (1, .ref (A 0)), (2, .ref (A 179)), (3, .ref (A 517)), (4, .int (Int32.ofInt i))]) rfl (by decide) (fun _ h => h) (z_aload_n X (x := A 179) rfl (List.Mem.tail _ (List.Mem.tail _ (List.Mem.tail _ (List.Mem.head _)))) (z_aload_n X (x := q1) rfl (List.Mem.tail _ (List.Mem.head _)) (z_load X (x := i) rfl (List.Mem.tail _ (List.Mem.tail _ (List.Mem.tail _ (List.Mem.tail _ (List.Mem.tail _ (List.Mem.head _)))))) (z_const X rfl (z_add X rfl (z_sld X S hL rfl (show 0 ≤ (i + 1) ∧ (i + 1) < (L : Int) by first | exact sx_in hi (by decide) | omega) ?_))))))
  have sr11 : rng (sc xs (i + 1)) := sc_rng
  refine z_aload_n X (x := q1) rfl (List.Mem.tail _ (List.Mem.head _)) (z_load X (x := i) rfl (List.Mem.tail _ (List.Mem.tail _ (List.Mem.tail _ (List.Mem.tail _ (List.Mem.tail _ (List.Mem.head _)))))) (z_const X rfl (z_add X rfl (z_sld X S hL rfl (show 0 ≤ (i + 2) ∧ (i + 2) < (L : Int) by first | exact sx_in hi (by decide) | omega) ?_))))
  have sr12 : rng (sc xs (i + 2)) := sc_rng
  refine z_callV X 179 (rm := rmN 242) (As := [.int (Int32.ofInt (sc xs (i + 1))), .int (Int32.ofInt (sc xs (i + 2)))]) (st := []) rfl rfl (by decide) rfl (by rw [E.1, E.2.1, E.2.2.1]; exact k_neck G Is9 (by first | exact ⟨sr11.1, sr11.2⟩ | omega) (by first | exact ⟨sr12.1, sr12.2⟩ | omega)) ⟨by rw [E.2.2.2]; exact (show 9 + 1 ≤ 2048 from oq_1d601463), by rw [E.2.2.2]; exact (show 8 + (6 + 11) + 171 ≤ 84000 from oq_da2b07c8), by rw [E.2.2.2]; exact (show (ce + 1) + 0 ≤ 601024 by omega), by rw [E.2.2.2]; exact (show (sl + 6) + 0 ≤ 7293034 by omega)⟩ (Nat.le_of_ble_eq_true rfl) (fun vv s13 hq => ?_) (fun ee s13 hq => ?_)
  rotate_left
  · obtain ⟨Is13, Fs13, e14, hv, hrs13, hps13⟩ := hq; cases hv
  obtain ⟨Is13, Fs13, e14, hv, hrs13, hps13⟩ := hq
  cases hv
  have Gs13 := fm_tq Gs9 Fs13 rfl rfl
  have JRLx_s13 : RLx s13 := RLx_fm Fs13 (by decide) JRLx_s9
  have JFEQ_s13 : FEQ s13 := FEQ_fm Fs13 (by decide) JFEQ_s9
  have ws13_0 : iI s13 0 = iI s9 0 := fm_iq Fs13 rfl
  have ws13_74 : iI s13 74 = iI s9 74 := fm_iq Fs13 rfl
  have ws13_9 : iI s13 9 = iI s9 9 := fm_iq Fs13 rfl
  have ws13_90 : iI s13 90 = iI s9 90 := fm_iq Fs13 rfl
  have ws13_12 : iI s13 12 = iI s9 12 := fm_iq Fs13 rfl
  have ws13_89 : iI s13 89 = iI s9 89 := fm_iq Fs13 rfl
  have wos13 : iO s13 = iO s9 := fm_o Fs13 (by decide)
  show WS k 862 [(5, .int (Int32.ofInt e10)), (0, .ref q1), (1, .ref (A 0)), (2, .ref (A 179)), (3, .ref (A 517)), (4, .int (Int32.ofInt i))] [.int (Int32.ofInt e14)] (Wd A dT s13) (ce + 1) (sl + 6)
  refine z_store X (lv' := [(6, .int (Int32.ofInt e14)), (5, .int (Int32.ofInt e10)), (0, .ref q1), (1, .ref (A 0)), (2, .ref (A 179)), (3, .ref (A 517)), (4, .int (Int32.ofInt i))]) rfl (by decide) (fun _ h => h) (z_goto X (t := 1877) rfl rfl (w_widen (ce' := ce + 29) (sl' := sl + 222) (by first | exact Nat.le_add_right _ _ | exact Nat.add_le_add_left (by decide) _ | omega) (by first | exact Nat.le_add_right _ _ | exact Nat.add_le_add_left (by decide) _ | omega) ?_))
  exact WS_lv (lv := [(0, .ref q1), (1, .ref (A 0)), (2, .ref (A 179)), (3, .ref (A 517)), (4, .int (Int32.ofInt i))]) (List.forall_mem_cons.mpr ⟨(List.Mem.tail _ (List.Mem.tail _ (List.Mem.head _))), (List.forall_mem_cons.mpr ⟨(List.Mem.tail _ (List.Mem.tail _ (List.Mem.tail _ (List.Mem.head _)))), (List.forall_mem_cons.mpr ⟨(List.Mem.tail _ (List.Mem.tail _ (List.Mem.tail _ (List.Mem.tail _ (List.Mem.head _))))), (List.forall_mem_cons.mpr ⟨(List.Mem.tail _ (List.Mem.tail _ (List.Mem.tail _ (List.Mem.tail _ (List.Mem.tail _ (List.Mem.head _)))))), (List.forall_mem_cons.mpr ⟨(List.Mem.tail _ (List.Mem.tail _ (List.Mem.tail _ (List.Mem.tail _ (List.Mem.tail _ (List.Mem.tail _ (List.Mem.head _))))))), (fun q h => absurd h List.not_mem_nil)⟩)⟩)⟩)⟩)⟩) (hk A _ Is13 JRLx_s13 JFEQ_s13 (by first | exact oq_f34933ba ws13_89 ws9_89 p1 b6.1 | omega) (by first | exact oq_d7ce4408 ws13_12 ws9_12 p2 | omega) (by first | exact oq_5bcdc35f ws13_74 ws13_0 ws9_74 ws9_0 p3 | omega) (by first | exact oq_5bcdc35f ws13_90 ws13_9 ws9_90 ws9_9 p4 | omega))
theorem lc_15 (G : GX l s0 D tys a0 dT) (GR : RS0 s0) (SF : SF0 s0) (GT : TXs0 s0) {k : kx_T} (X : AX k 350 dT) (E : kL k = l ∧ kS0 k = s0 ∧ kD k = D ∧ kR k = room_1) {q1 L : Nat} {xs : Nat → Int32} (S : SX k q1 L xs) (hL : L ≤ 3072) (I : Bd s) (jR : RLx s) (jFEQ : FEQ s) (p1 : iI s 89 = 1) (p2 : iI s 12 ≤ 8) (p3 : iI s 0 = iI s 74) (p4 : iI s 9 = iI s 90) {i : Int} (hi : 0 ≤ i ∧ i + 6 ≤ (L : Int)) {ce sl : Nat} (hce : ce + 29 ≤ 601024) (hsl : sl + 222 ≤ 7293034) (hk : ∀ (A : Nat → Nat) (t : PS), Bd t → RLx t → FEQ t → iI t 89 = 1 → iI t 12 ≤ 8 → iI t 0 = iI t 74 → iI t 9 = iI t 90 → WS k 1877 [(0, .ref q1), (1, .ref (A 0)), (2, .ref (A 179)), (3, .ref (A 517)), (4, .int (Int32.ofInt i))] [] (Wd A dT t) (ce + 29) (sl + 222)) : WS k 867 [(0, .ref q1), (1, .ref (A 0)), (2, .ref (A 179)), (3, .ref (A 517)), (4, .int (Int32.ofInt i))] [] (Wd A dT s) ce sl := by
  have F : Fm [73] [1460] s s := fm_rf _ _ s
  have b1 := bi_0 I
  have b2 := bi_74 I
  have b3 := bi_9 I
  have b4 := bi_90 I
  have b5 := bi_12 I
  have b6 := bi_89 I
  refine z_aload_n X (x := A 0) rfl (List.Mem.tail _ (List.Mem.head _)) (z_aload_n X (x := q1) rfl (List.Mem.head _) (z_load X (x := i) rfl (List.Mem.tail _ (List.Mem.tail _ (List.Mem.tail _ (List.Mem.tail _ (List.Mem.head _))))) (z_const X rfl (z_add X rfl (z_sld X S hL rfl (show 0 ≤ (i + 1) ∧ (i + 1) < (L : Int) by first | exact sx_in hi (by decide) | omega) ?_)))))
  have sr7 : rng (sc xs (i + 1)) := sc_rng
  refine z_aload_n X (x := A 517) rfl (List.Mem.tail _ (List.Mem.tail _ (List.Mem.tail _ (List.Mem.head _)))) (z_callL X (rm := rmN 327) (As := [.ref (A 0), .int (Int32.ofInt (sc xs (i + 1))), .ref (A 517)]) (st := []) rfl (by decide) rfl (by rw [E.1, E.2.1, E.2.2.1]; exact lw_shorts G I (by omega)) ⟨by rw [E.2.2.2]; exact (show 10 + 1 ≤ 2048 by decide), by rw [E.2.2.2]; exact (show 8 + (4 + 11) + 198 ≤ 84000 by decide), by rw [E.2.2.2]; exact (show ce + 1 ≤ 601024 by first | exact rmo_1 hce (by decide) | exact rmo_2 hce (by decide) | omega), by rw [E.2.2.2]; exact (show sl + 6 ≤ 7293034 by first | exact rmo_1 hsl (by decide) | exact rmo_2 hsl (by decide) | omega)⟩ (Nat.le_of_ble_eq_true rfl) (fun vv A s8 hA2 hq => ?_) (fun ee A s8 hA2 hq => ?_))
  rotate_left
  · obtain ⟨Is8, Fs8, e9, hv, hrs8, hps8⟩ := hq; cases hv
  obtain ⟨Is8, Fs8, e9, hv, hrs8, hps8⟩ := hq
  cases hv
  rw [← hA2 0 (by decide)]
  rw [← hA2 179 (by decide)]
  rw [← hA2 517 (by decide)]
  have Gs8 := fm_tq F Fs8 rfl rfl
  have JRLx_s8 : RLx s8 := RLx_fm Fs8 (by decide) jR
  have JFEQ_s8 : FEQ s8 := FEQ_fm Fs8 (by decide) jFEQ
  have ws8_0 : iI s8 0 = iI s 0 := fm_iq Fs8 rfl
  have ws8_74 : iI s8 74 = iI s 74 := fm_iq Fs8 rfl
  have ws8_9 : iI s8 9 = iI s 9 := fm_iq Fs8 rfl
  have ws8_90 : iI s8 90 = iI s 90 := fm_iq Fs8 rfl
  have ws8_12 : iI s8 12 = iI s 12 := fm_iq Fs8 rfl
  have ws8_89 : iI s8 89 = iI s 89 := fm_iq Fs8 rfl
  show WS k 878 [(0, .ref q1), (1, .ref (A 0)), (2, .ref (A 179)), (3, .ref (A 517)), (4, .int (Int32.ofInt i))] [.int (Int32.ofInt e9)] (Wd A dT s8) (ce + 1) (sl + 6)
  refine z_store X (lv' := [(5, .int (Int32.ofInt e9)), (0, .ref q1), (1, .ref (A 0)), (2, .ref (A 179)), (3, .ref (A 517)), (4, .int (Int32.ofInt i))]) rfl (by decide) (fun _ h => h) (z_aload_n X (x := A 179) rfl (List.Mem.tail _ (List.Mem.tail _ (List.Mem.tail _ (List.Mem.head _)))) (z_aload_n X (x := q1) rfl (List.Mem.tail _ (List.Mem.head _)) (z_load X (x := i) rfl (List.Mem.tail _ (List.Mem.tail _ (List.Mem.tail _ (List.Mem.tail _ (List.Mem.tail _ (List.Mem.head _)))))) (z_const X rfl (z_add X rfl (z_sld X S hL rfl (show 0 ≤ (i + 1) ∧ (i + 1) < (L : Int) by first | exact sx_in hi (by decide) | omega) ?_))))))
  have sr10 : rng (sc xs (i + 1)) := sc_rng
  refine z_callV X 179 (rm := rmN 243) (As := [.int (Int32.ofInt (sc xs (i + 1)))]) (st := []) rfl rfl (by decide) rfl (by rw [E.1, E.2.1, E.2.2.1]; exact k_shorts G Is8 (by first | exact ⟨sr10.1, sr10.2⟩ | omega)) ⟨by rw [E.2.2.2]; exact (show 7 + 1 ≤ 2048 from oq_4e6106eb), by rw [E.2.2.2]; exact (show 8 + (7 + 11) + 122 ≤ 84000 from oq_f75bb075), by rw [E.2.2.2]; exact (show (ce + 1) + 0 ≤ 601024 by omega), by rw [E.2.2.2]; exact (show (sl + 6) + 0 ≤ 7293034 by omega)⟩ (Nat.le_of_ble_eq_true rfl) (fun vv s11 hq => ?_) (fun ee s11 hq => ?_)
  rotate_left
  · obtain ⟨Is11, Fs11, e12, hv, hrs11, hps11⟩ := hq; cases hv
  obtain ⟨Is11, Fs11, e12, hv, hrs11, hps11⟩ := hq
  cases hv
  have Gs11 := fm_tq Gs8 Fs11 rfl rfl
  have JRLx_s11 : RLx s11 := RLx_fm Fs11 (by decide) JRLx_s8
  have JFEQ_s11 : FEQ s11 := FEQ_fm Fs11 (by decide) JFEQ_s8
  have ws11_0 : iI s11 0 = iI s8 0 := fm_iq Fs11 rfl
  have ws11_74 : iI s11 74 = iI s8 74 := fm_iq Fs11 rfl
  have ws11_9 : iI s11 9 = iI s8 9 := fm_iq Fs11 rfl
  have ws11_90 : iI s11 90 = iI s8 90 := fm_iq Fs11 rfl
  have ws11_12 : iI s11 12 = iI s8 12 := fm_iq Fs11 rfl
  have ws11_89 : iI s11 89 = iI s8 89 := fm_iq Fs11 rfl
  have wos11 : iO s11 = iO s8 := fm_o Fs11 (by decide)
  show WS k 890 [(5, .int (Int32.ofInt e9)), (0, .ref q1), (1, .ref (A 0)), (2, .ref (A 179)), (3, .ref (A 517)), (4, .int (Int32.ofInt i))] [.int (Int32.ofInt e12)] (Wd A dT s11) (ce + 1) (sl + 6)
  refine z_store X (lv' := [(6, .int (Int32.ofInt e12)), (5, .int (Int32.ofInt e9)), (0, .ref q1), (1, .ref (A 0)), (2, .ref (A 179)), (3, .ref (A 517)), (4, .int (Int32.ofInt i))]) rfl (by decide) (fun _ h => h) (z_goto X (t := 1877) rfl rfl (w_widen (ce' := ce + 29) (sl' := sl + 222) (by first | exact Nat.le_add_right _ _ | exact Nat.add_le_add_left (by decide) _ | omega) (by first | exact Nat.le_add_right _ _ | exact Nat.add_le_add_left (by decide) _ | omega) ?_))
  exact WS_lv (lv := [(0, .ref q1), (1, .ref (A 0)), (2, .ref (A 179)), (3, .ref (A 517)), (4, .int (Int32.ofInt i))]) (List.forall_mem_cons.mpr ⟨(List.Mem.tail _ (List.Mem.tail _ (List.Mem.head _))), (List.forall_mem_cons.mpr ⟨(List.Mem.tail _ (List.Mem.tail _ (List.Mem.tail _ (List.Mem.head _)))), (List.forall_mem_cons.mpr ⟨(List.Mem.tail _ (List.Mem.tail _ (List.Mem.tail _ (List.Mem.tail _ (List.Mem.head _))))), (List.forall_mem_cons.mpr ⟨(List.Mem.tail _ (List.Mem.tail _ (List.Mem.tail _ (List.Mem.tail _ (List.Mem.tail _ (List.Mem.head _)))))), (List.forall_mem_cons.mpr ⟨(List.Mem.tail _ (List.Mem.tail _ (List.Mem.tail _ (List.Mem.tail _ (List.Mem.tail _ (List.Mem.tail _ (List.Mem.head _))))))), (fun q h => absurd h List.not_mem_nil)⟩)⟩)⟩)⟩)⟩) (hk A _ Is11 JRLx_s11 JFEQ_s11 (by first | exact oq_f34933ba ws11_89 ws8_89 p1 b6.1 | omega) (by first | exact oq_d7ce4408 ws11_12 ws8_12 p2 | omega) (by first | exact oq_5bcdc35f ws11_74 ws11_0 ws8_74 ws8_0 p3 | omega) (by first | exact oq_5bcdc35f ws11_90 ws11_9 ws8_90 ws8_9 p4 | omega))
theorem lc_16 (G : GX l s0 D tys a0 dT) (GR : RS0 s0) (SF : SF0 s0) (GT : TXs0 s0) {k : kx_T} (X : AX k 350 dT) (E : kL k = l ∧ kS0 k = s0 ∧ kD k = D ∧ kR k = room_1) {q1 L : Nat} {xs : Nat → Int32} (S : SX k q1 L xs) (hL : L ≤ 3072) (I : Bd s) (jR : RLx s) (jFEQ : FEQ s) (p1 : iI s 89 = 1) (p2 : iI s 12 ≤ 8) (p3 : iI s 0 = iI s 74) (p4 : iI s 9 = iI s 90) {i : Int} (hi : 0 ≤ i ∧ i + 6 ≤ (L : Int)) {ce sl : Nat} (hce : ce + 29 ≤ 601024) (hsl : sl + 222 ≤ 7293034) (hk : ∀ (A : Nat → Nat) (t : PS), Bd t → RLx t → FEQ t → iI t 89 = 1 → iI t 12 ≤ 8 → iI t 0 = iI t 74 → iI t 9 = iI t 90 → WS k 1877 [(0, .ref q1), (1, .ref (A 0)), (2, .ref (A 179)), (3, .ref (A 517)), (4, .int (Int32.ofInt i))] [] (Wd A dT t) (ce + 29) (sl + 222)) : WS k 895 [(0, .ref q1), (1, .ref (A 0)), (2, .ref (A 179)), (3, .ref (A 517)), (4, .int (Int32.ofInt i))] [] (Wd A dT s) ce sl := by
  have F : Fm [21, 73, 95] [1460] s s := fm_rf _ _ s
  have b1 := bi_0 I
  have b2 := bi_74 I
  have b3 := bi_9 I
  have b4 := bi_90 I
  have b5 := bi_12 I
  have b6 := bi_89 I
  refine z_aload_n X (x := A 0) rfl (List.Mem.tail _ (List.Mem.head _)) (z_aload_n X (x := q1) rfl (List.Mem.head _) (z_load X (x := i) rfl (List.Mem.tail _ (List.Mem.tail _ (List.Mem.tail _ (List.Mem.tail _ (List.Mem.head _))))) (z_const X rfl (z_add X rfl (z_sld X S hL rfl (show 0 ≤ (i + 1) ∧ (i + 1) < (L : Int) by first | exact sx_in hi (by decide) | omega) ?_)))))
  have sr7 : rng (sc xs (i + 1)) := sc_rng
  refine z_aload_n X (x := A 517) rfl (List.Mem.tail _ (List.Mem.tail _ (List.Mem.tail _ (List.Mem.head _)))) (z_callL X (rm := rmN 328) (As := [.ref (A 0), .int (Int32.ofInt (sc xs (i + 1))), .ref (A 517)]) (st := []) rfl (by decide) rfl (by rw [E.1, E.2.1, E.2.2.1]; exact lw_length G I (by omega)) ⟨by rw [E.2.2.2]; exact (show 8 + 1 ≤ 2048 by decide), by rw [E.2.2.2]; exact (show 8 + (4 + 11) + 145 ≤ 84000 by decide), by rw [E.2.2.2]; exact (show ce + 1 ≤ 601024 by first | exact rmo_1 hce (by decide) | exact rmo_2 hce (by decide) | omega), by rw [E.2.2.2]; exact (show sl + 6 ≤ 7293034 by first | exact rmo_1 hsl (by decide) | exact rmo_2 hsl (by decide) | omega)⟩ (Nat.le_of_ble_eq_true rfl) (fun vv A s8 hA2 hq => ?_) (fun ee A s8 hA2 hq => ?_))
  rotate_left
  · obtain ⟨Is8, Fs8, e9, hv, hrs8, hps8⟩ := hq; cases hv
  obtain ⟨Is8, Fs8, e9, hv, hrs8, hps8⟩ := hq
  cases hv
  rw [← hA2 0 (by decide)]
  rw [← hA2 179 (by decide)]
  rw [← hA2 517 (by decide)]
  have Gs8 := fm_tq F Fs8 rfl rfl
  have JRLx_s8 : RLx s8 := RLx_fm Fs8 (by decide) jR
  have JFEQ_s8 : FEQ s8 := FEQ_fm Fs8 (by decide) jFEQ
  have ws8_0 : iI s8 0 = iI s 0 := fm_iq Fs8 rfl
  have ws8_74 : iI s8 74 = iI s 74 := fm_iq Fs8 rfl
  have ws8_9 : iI s8 9 = iI s 9 := fm_iq Fs8 rfl
  have ws8_90 : iI s8 90 = iI s 90 := fm_iq Fs8 rfl
  have ws8_12 : iI s8 12 = iI s 12 := fm_iq Fs8 rfl
  have ws8_89 : iI s8 89 = iI s 89 := fm_iq Fs8 rfl
  show WS k 906 [(0, .ref q1), (1, .ref (A 0)), (2, .ref (A 179)), (3, .ref (A 517)), (4, .int (Int32.ofInt i))] [.int (Int32.ofInt e9)] (Wd A dT s8) (ce + 1) (sl + 6)
  refine z_store X (lv' := [(5, .int (Int32.ofInt e9)), (0, .ref q1), (1, .ref (A 0)), (2, .ref (A 179)), (3, .ref (A 517)), (4, .int (Int32.ofInt i))]) rfl (by decide) (fun _ h => h) (z_aload_n X (x := A 179) rfl (List.Mem.tail _ (List.Mem.tail _ (List.Mem.tail _ (List.Mem.head _)))) (z_aload_n X (x := q1) rfl (List.Mem.tail _ (List.Mem.head _)) (z_load X (x := i) rfl (List.Mem.tail _ (List.Mem.tail _ (List.Mem.tail _ (List.Mem.tail _ (List.Mem.tail _ (List.Mem.head _)))))) (z_const X rfl (z_add X rfl (z_sld X S hL rfl (show 0 ≤ (i + 1) ∧ (i + 1) < (L : Int) by first | exact sx_in hi (by decide) | omega) ?_))))))
  have sr10 : rng (sc xs (i + 1)) := sc_rng
  refine z_callV X 179 (rm := rmN 244) (As := [.int (Int32.ofInt (sc xs (i + 1)))]) (st := []) rfl rfl (by decide) rfl (by rw [E.1, E.2.1, E.2.2.1]; exact k_length G Is8 (by first | exact ⟨sr10.1, sr10.2⟩ | omega)) ⟨by rw [E.2.2.2]; exact (show 7 + 1 ≤ 2048 from oq_4e6106eb), by rw [E.2.2.2]; exact (show 8 + (3 + 11) + 122 ≤ 84000 from oq_38d194b9), by rw [E.2.2.2]; exact (show (ce + 1) + 0 ≤ 601024 by omega), by rw [E.2.2.2]; exact (show (sl + 6) + 0 ≤ 7293034 by omega)⟩ (Nat.le_of_ble_eq_true rfl) (fun vv s11 hq => ?_) (fun ee s11 hq => ?_)
  rotate_left
  · obtain ⟨Is11, Fs11, e12, hv, hrs11, hps11⟩ := hq; cases hv
  obtain ⟨Is11, Fs11, e12, hv, hrs11, hps11⟩ := hq
  cases hv
  have Gs11 := fm_tq Gs8 Fs11 rfl rfl
  have JRLx_s11 : RLx s11 := RLx_fm Fs11 (by decide) JRLx_s8
  have JFEQ_s11 : FEQ s11 := FEQ_fm Fs11 (by decide) JFEQ_s8
  have ws11_0 : iI s11 0 = iI s8 0 := fm_iq Fs11 rfl
  have ws11_74 : iI s11 74 = iI s8 74 := fm_iq Fs11 rfl
  have ws11_9 : iI s11 9 = iI s8 9 := fm_iq Fs11 rfl
  have ws11_90 : iI s11 90 = iI s8 90 := fm_iq Fs11 rfl
  have ws11_12 : iI s11 12 = iI s8 12 := fm_iq Fs11 rfl
  have ws11_89 : iI s11 89 = iI s8 89 := fm_iq Fs11 rfl
  have wos11 : iO s11 = iO s8 := fm_o Fs11 (by decide)
  show WS k 918 [(5, .int (Int32.ofInt e9)), (0, .ref q1), (1, .ref (A 0)), (2, .ref (A 179)), (3, .ref (A 517)), (4, .int (Int32.ofInt i))] [.int (Int32.ofInt e12)] (Wd A dT s11) (ce + 1) (sl + 6)
  refine z_store X (lv' := [(6, .int (Int32.ofInt e12)), (5, .int (Int32.ofInt e9)), (0, .ref q1), (1, .ref (A 0)), (2, .ref (A 179)), (3, .ref (A 517)), (4, .int (Int32.ofInt i))]) rfl (by decide) (fun _ h => h) (z_goto X (t := 1877) rfl rfl (w_widen (ce' := ce + 29) (sl' := sl + 222) (by first | exact Nat.le_add_right _ _ | exact Nat.add_le_add_left (by decide) _ | omega) (by first | exact Nat.le_add_right _ _ | exact Nat.add_le_add_left (by decide) _ | omega) ?_))
  exact WS_lv (lv := [(0, .ref q1), (1, .ref (A 0)), (2, .ref (A 179)), (3, .ref (A 517)), (4, .int (Int32.ofInt i))]) (List.forall_mem_cons.mpr ⟨(List.Mem.tail _ (List.Mem.tail _ (List.Mem.head _))), (List.forall_mem_cons.mpr ⟨(List.Mem.tail _ (List.Mem.tail _ (List.Mem.tail _ (List.Mem.head _)))), (List.forall_mem_cons.mpr ⟨(List.Mem.tail _ (List.Mem.tail _ (List.Mem.tail _ (List.Mem.tail _ (List.Mem.head _))))), (List.forall_mem_cons.mpr ⟨(List.Mem.tail _ (List.Mem.tail _ (List.Mem.tail _ (List.Mem.tail _ (List.Mem.tail _ (List.Mem.head _)))))), (List.forall_mem_cons.mpr ⟨(List.Mem.tail _ (List.Mem.tail _ (List.Mem.tail _ (List.Mem.tail _ (List.Mem.tail _ (List.Mem.tail _ (List.Mem.head _))))))), (fun q h => absurd h List.not_mem_nil)⟩)⟩)⟩)⟩)⟩) (hk A _ Is11 JRLx_s11 JFEQ_s11 (by first | exact oq_f34933ba ws11_89 ws8_89 p1 b6.1 | omega) (by first | exact oq_d7ce4408 ws11_12 ws8_12 p2 | omega) (by first | exact oq_5bcdc35f ws11_74 ws11_0 ws8_74 ws8_0 p3 | omega) (by first | exact oq_5bcdc35f ws11_90 ws11_9 ws8_90 ws8_9 p4 | omega))
theorem lc_17 (G : GX l s0 D tys a0 dT) (GR : RS0 s0) (SF : SF0 s0) (GT : TXs0 s0) {k : kx_T} (X : AX k 350 dT) (E : kL k = l ∧ kS0 k = s0 ∧ kD k = D ∧ kR k = room_1) {q1 L : Nat} {xs : Nat → Int32} (S : SX k q1 L xs) (hL : L ≤ 3072) (I : Bd s) (jR : RLx s) (jFEQ : FEQ s) (p1 : iI s 89 = 1) (p2 : iI s 12 ≤ 8) (p3 : iI s 0 = iI s 74) (p4 : iI s 9 = iI s 90) {i : Int} (hi : 0 ≤ i ∧ i + 6 ≤ (L : Int)) {ce sl : Nat} (hce : ce + 29 ≤ 601024) (hsl : sl + 222 ≤ 7293034) (hk : ∀ (A : Nat → Nat) (t : PS), Bd t → RLx t → FEQ t → iI t 89 = 1 → iI t 12 ≤ 8 → iI t 0 = iI t 74 → iI t 9 = iI t 90 → WS k 1877 [(0, .ref q1), (1, .ref (A 0)), (2, .ref (A 179)), (3, .ref (A 517)), (4, .int (Int32.ofInt i))] [] (Wd A dT t) (ce + 29) (sl + 222)) : WS k 923 [(0, .ref q1), (1, .ref (A 0)), (2, .ref (A 179)), (3, .ref (A 517)), (4, .int (Int32.ofInt i))] [] (Wd A dT s) ce sl := by
  have F : Fm [73] [1460, 202, 204, 205, 206, 207, 208, 209, 210, 211, 212, 213, 214, 215, 216, 217, 218, 219, 220, 221, 222, 223, 224, 225, 226, 227, 203] s s := fm_rf _ _ s
  have b1 := bi_0 I
  have b2 := bi_74 I
  have b3 := bi_9 I
  have b4 := bi_90 I
  have b5 := bi_12 I
  have b6 := bi_89 I
  refine z_aload_n X (x := A 0) rfl (List.Mem.tail _ (List.Mem.head _)) (z_aload_n X (x := q1) rfl (List.Mem.head _) (z_load X (x := i) rfl (List.Mem.tail _ (List.Mem.tail _ (List.Mem.tail _ (List.Mem.tail _ (List.Mem.head _))))) (z_const X rfl (z_add X rfl (z_sld X S hL rfl (show 0 ≤ (i + 1) ∧ (i + 1) < (L : Int) by first | exact sx_in hi (by decide) | omega) ?_)))))
  have sr7 : rng (sc xs (i + 1)) := sc_rng
  refine z_aload_n X (x := A 517) rfl (List.Mem.tail _ (List.Mem.tail _ (List.Mem.tail _ (List.Mem.head _)))) (z_callL X (rm := rmN 329) (As := [.ref (A 0), .int (Int32.ofInt (sc xs (i + 1))), .ref (A 517)]) (st := []) rfl (by decide) rfl (by rw [E.1, E.2.1, E.2.2.1]; exact lw_edge G I (by omega)) ⟨by rw [E.2.2.2]; exact (show 9 + 1 ≤ 2048 by decide), by rw [E.2.2.2]; exact (show 8 + (4 + 11) + 173 ≤ 84000 by decide), by rw [E.2.2.2]; exact (show ce + 1 ≤ 601024 by first | exact rmo_1 hce (by decide) | exact rmo_2 hce (by decide) | omega), by rw [E.2.2.2]; exact (show sl + 6 ≤ 7293034 by first | exact rmo_1 hsl (by decide) | exact rmo_2 hsl (by decide) | omega)⟩ (Nat.le_of_ble_eq_true rfl) (fun vv A s8 hA2 hq => ?_) (fun ee A s8 hA2 hq => ?_))
  rotate_left
  · obtain ⟨Is8, Fs8, e9, hv, hrs8, hps8⟩ := hq; cases hv
  obtain ⟨Is8, Fs8, e9, hv, hrs8, hps8⟩ := hq
  cases hv
  rw [← hA2 0 (by decide)]
  rw [← hA2 179 (by decide)]
  rw [← hA2 517 (by decide)]
  have Gs8 := fm_tq F Fs8 rfl rfl
  have JRLx_s8 : RLx s8 := RLx_fm Fs8 (by decide) jR
  have JFEQ_s8 : FEQ s8 := FEQ_fm Fs8 (by decide) jFEQ
  have ws8_0 : iI s8 0 = iI s 0 := fm_iq Fs8 rfl
  have ws8_74 : iI s8 74 = iI s 74 := fm_iq Fs8 rfl
  have ws8_9 : iI s8 9 = iI s 9 := fm_iq Fs8 rfl
  have ws8_90 : iI s8 90 = iI s 90 := fm_iq Fs8 rfl
  have ws8_12 : iI s8 12 = iI s 12 := fm_iq Fs8 rfl
  have ws8_89 : iI s8 89 = iI s 89 := fm_iq Fs8 rfl
  show WS k 934 [(0, .ref q1), (1, .ref (A 0)), (2, .ref (A 179)), (3, .ref (A 517)), (4, .int (Int32.ofInt i))] [.int (Int32.ofInt e9)] (Wd A dT s8) (ce + 1) (sl + 6)
  refine z_store X (lv' := [(5, .int (Int32.ofInt e9)), (0, .ref q1), (1, .ref (A 0)), (2, .ref (A 179)), (3, .ref (A 517)), (4, .int (Int32.ofInt i))]) rfl (by decide) (fun _ h => h) (z_aload_n X (x := A 179) rfl (List.Mem.tail _ (List.Mem.tail _ (List.Mem.tail _ (List.Mem.head _)))) (z_aload_n X (x := q1) rfl (List.Mem.tail _ (List.Mem.head _)) (z_load X (x := i) rfl (List.Mem.tail _ (List.Mem.tail _ (List.Mem.tail _ (List.Mem.tail _ (List.Mem.tail _ (List.Mem.head _)))))) (z_const X rfl (z_add X rfl (z_sld X S hL rfl (show 0 ≤ (i + 1) ∧ (i + 1) < (L : Int) by first | exact sx_in hi (by decide) | omega) ?_))))))
  have sr10 : rng (sc xs (i + 1)) := sc_rng
  refine z_callV X 179 (rm := rmN 246) (As := [.int (Int32.ofInt (sc xs (i + 1)))]) (st := []) rfl rfl (by decide) rfl (by rw [E.1, E.2.1, E.2.2.1]; exact k_edge G Is8 JRLx_s8 (by first | exact ⟨sr10.1, sr10.2⟩ | omega)) ⟨by rw [E.2.2.2]; exact (show 11 + 1 ≤ 2048 from oq_dd1cdbfa), by rw [E.2.2.2]; exact (show 8 + (6 + 11) + 212 ≤ 84000 from oq_c1432001), by rw [E.2.2.2]; exact (show (ce + 1) + 0 ≤ 601024 by omega), by rw [E.2.2.2]; exact (show (sl + 6) + 0 ≤ 7293034 by omega)⟩ (Nat.le_of_ble_eq_true rfl) (fun vv s11 hq => ?_) (fun ee s11 hq => ?_)
  rotate_left
  · obtain ⟨Is11, Fs11, JRLx_s11, e12, hv, hrs11, hps11⟩ := hq; cases hv
  obtain ⟨Is11, Fs11, JRLx_s11, e12, hv, hrs11, hps11⟩ := hq
  cases hv
  have Gs11 := fm_tq Gs8 Fs11 rfl rfl
  have JRLx_s11 : RLx s11 := RLx_fm Fs11 (by decide) JRLx_s8
  have JFEQ_s11 : FEQ s11 := FEQ_fm Fs11 (by decide) JFEQ_s8
  have ws11_0 : iI s11 0 = iI s8 0 := fm_iq Fs11 rfl
  have ws11_74 : iI s11 74 = iI s8 74 := fm_iq Fs11 rfl
  have ws11_9 : iI s11 9 = iI s8 9 := fm_iq Fs11 rfl
  have ws11_90 : iI s11 90 = iI s8 90 := fm_iq Fs11 rfl
  have ws11_12 : iI s11 12 = iI s8 12 := fm_iq Fs11 rfl
  have ws11_89 : iI s11 89 = iI s8 89 := fm_iq Fs11 rfl
  have wos11 : iO s11 = iO s8 := fm_o Fs11 (by decide)
  show WS k 946 [(5, .int (Int32.ofInt e9)), (0, .ref q1), (1, .ref (A 0)), (2, .ref (A 179)), (3, .ref (A 517)), (4, .int (Int32.ofInt i))] [.int (Int32.ofInt e12)] (Wd A dT s11) (ce + 1) (sl + 6)
  refine z_store X (lv' := [(6, .int (Int32.ofInt e12)), (5, .int (Int32.ofInt e9)), (0, .ref q1), (1, .ref (A 0)), (2, .ref (A 179)), (3, .ref (A 517)), (4, .int (Int32.ofInt i))]) rfl (by decide) (fun _ h => h) (z_goto X (t := 1877) rfl rfl (w_widen (ce' := ce + 29) (sl' := sl + 222) (by first | exact Nat.le_add_right _ _ | exact Nat.add_le_add_left (by decide) _ | omega) (by first | exact Nat.le_add_right _ _ | exact Nat.add_le_add_left (by decide) _ | omega) ?_))
  exact WS_lv (lv := [(0, .ref q1), (1, .ref (A 0)), (2, .ref (A 179)), (3, .ref (A 517)), (4, .int (Int32.ofInt i))]) (List.forall_mem_cons.mpr ⟨(List.Mem.tail _ (List.Mem.tail _ (List.Mem.head _))), (List.forall_mem_cons.mpr ⟨(List.Mem.tail _ (List.Mem.tail _ (List.Mem.tail _ (List.Mem.head _)))), (List.forall_mem_cons.mpr ⟨(List.Mem.tail _ (List.Mem.tail _ (List.Mem.tail _ (List.Mem.tail _ (List.Mem.head _))))), (List.forall_mem_cons.mpr ⟨(List.Mem.tail _ (List.Mem.tail _ (List.Mem.tail _ (List.Mem.tail _ (List.Mem.tail _ (List.Mem.head _)))))), (List.forall_mem_cons.mpr ⟨(List.Mem.tail _ (List.Mem.tail _ (List.Mem.tail _ (List.Mem.tail _ (List.Mem.tail _ (List.Mem.tail _ (List.Mem.head _))))))), (fun q h => absurd h List.not_mem_nil)⟩)⟩)⟩)⟩)⟩) (hk A _ Is11 JRLx_s11 JFEQ_s11 (by first | exact oq_f34933ba ws11_89 ws8_89 p1 b6.1 | omega) (by first | exact oq_d7ce4408 ws11_12 ws8_12 p2 | omega) (by first | exact oq_5bcdc35f ws11_74 ws11_0 ws8_74 ws8_0 p3 | omega) (by first | exact oq_5bcdc35f ws11_90 ws11_9 ws8_90 ws8_9 p4 | omega))
theorem lc_18 (G : GX l s0 D tys a0 dT) (GR : RS0 s0) (SF : SF0 s0) (GT : TXs0 s0) {k : kx_T} (X : AX k 350 dT) (E : kL k = l ∧ kS0 k = s0 ∧ kD k = D ∧ kR k = room_1) {q1 L : Nat} {xs : Nat → Int32} (S : SX k q1 L xs) (hL : L ≤ 3072) (I : Bd s) (jR : RLx s) (jFEQ : FEQ s) (p1 : iI s 89 = 1) (p2 : iI s 12 ≤ 8) (p3 : iI s 0 = iI s 74) (p4 : iI s 9 = iI s 90) {i : Int} (hi : 0 ≤ i ∧ i + 6 ≤ (L : Int)) {ce sl : Nat} (hce : ce + 29 ≤ 601024) (hsl : sl + 222 ≤ 7293034) (hk : ∀ (A : Nat → Nat) (t : PS), Bd t → RLx t → FEQ t → iI t 89 = 1 → iI t 12 ≤ 8 → iI t 0 = iI t 74 → iI t 9 = iI t 90 → WS k 1877 [(0, .ref q1), (1, .ref (A 0)), (2, .ref (A 179)), (3, .ref (A 517)), (4, .int (Int32.ofInt i))] [] (Wd A dT t) (ce + 29) (sl + 222)) : WS k 951 [(0, .ref q1), (1, .ref (A 0)), (2, .ref (A 179)), (3, .ref (A 517)), (4, .int (Int32.ofInt i))] [] (Wd A dT s) ce sl := by
  have F : Fm [22, 23, 24, 73, 77, 75, 78, 79, 80, 81] [33, 26, 27, 28, 29, 30, 31, 32, 20, 202, 204, 205, 206, 207, 208, 209, 210, 211, 212, 213, 214, 215, 216, 217, 218, 219, 220, 221, 222, 223, 224, 225, 226, 227, 203, 161, 230, 231, 232] s s := fm_rf _ _ s
  have b1 := bi_0 I
  have b2 := bi_74 I
  have b3 := bi_9 I
  have b4 := bi_90 I
  have b5 := bi_12 I
  have b6 := bi_89 I
  refine z_aload_n X (x := A 0) rfl (List.Mem.tail _ (List.Mem.head _)) (z_callV X 0 (rm := rmN 153) (As := []) (st := []) rfl rfl (by decide) rfl (by rw [E.1, E.2.1, E.2.2.1]; exact cs_holds G I ) ⟨by rw [E.2.2.2]; exact (show 11 + 1 ≤ 2048 from oq_dd1cdbfa), by rw [E.2.2.2]; exact (show 8 + (2 + 11) + 224 ≤ 84000 from oq_b95bb2bf), by rw [E.2.2.2]; exact (show ce + 0 ≤ 601024 by omega), by rw [E.2.2.2]; exact (show sl + 0 ≤ 7293034 by omega)⟩ (Nat.le_of_ble_eq_true rfl) (fun vv s7 hq => ?_) (fun ee s7 hq => ?_))
  rotate_left
  · obtain ⟨Is7, Fs7, e8, hv, hrs7, hps7⟩ := hq; cases hv
  obtain ⟨Is7, Fs7, e8, hv, hrs7, hps7⟩ := hq
  cases hv
  have Gs7 := fm_tq F Fs7 rfl rfl
  have JRLx_s7 : RLx s7 := RLx_fm Fs7 (by decide) jR
  have JFEQ_s7 : FEQ s7 := FEQ_fm Fs7 (by decide) jFEQ
  have ws7_0 : iI s7 0 = iI s 0 := fm_iq Fs7 rfl
  have ws7_74 : iI s7 74 = iI s 74 := fm_iq Fs7 rfl
  have ws7_9 : iI s7 9 = iI s 9 := fm_iq Fs7 rfl
  have ws7_90 : iI s7 90 = iI s 90 := fm_iq Fs7 rfl
  have ws7_12 : iI s7 12 = iI s 12 := fm_iq Fs7 rfl
  have ws7_89 : iI s7 89 = iI s 89 := fm_iq Fs7 rfl
  have wos7 : iO s7 = iO s := fm_o Fs7 (by decide)
  show WS k 955 [(0, .ref q1), (1, .ref (A 0)), (2, .ref (A 179)), (3, .ref (A 517)), (4, .int (Int32.ofInt i))] [.int (Int32.ofInt e8)] (Wd A dT s7) ce sl
  refine w_pop X.1 (ax_d X (show cdA 350 955 = some (.pop, 1, 0, 0, 0) from rfl)) rfl (z_aload_n X (x := A 179) rfl (List.Mem.tail _ (List.Mem.tail _ (List.Mem.head _))) (z_callV X 179 (rm := rmN 247) (As := []) (st := []) rfl rfl (by decide) rfl (by rw [E.1, E.2.1, E.2.2.1]; exact k_holds G Is7 JRLx_s7 ) ⟨by rw [E.2.2.2]; exact (show 39 + 1 ≤ 2048 from oq_dead3895), by rw [E.2.2.2]; exact (show 8 + (2 + 11) + 1622 ≤ 84000 from oq_2450e786), by rw [E.2.2.2]; exact (show ce + 0 ≤ 601024 by first | (clear hps7; omega) | omega), by rw [E.2.2.2]; exact (show sl + 0 ≤ 7293034 by first | (clear hps7; omega) | omega)⟩ (Nat.le_of_ble_eq_true rfl) (fun vv s9 hq => ?_) (fun ee s9 hq => ?_)))
  rotate_left
  · obtain ⟨Is9, Fs9, JRLx_s9, e10, hv, hrs9, hps9⟩ := hq; cases hv
  obtain ⟨Is9, Fs9, JRLx_s9, e10, hv, hrs9, hps9⟩ := hq
  cases hv
  have Gs9 := fm_tq Gs7 Fs9 rfl rfl
  have JRLx_s9 : RLx s9 := RLx_fm Fs9 (by decide) JRLx_s7
  have JFEQ_s9 : FEQ s9 := FEQ_fm Fs9 (by decide) JFEQ_s7
  have ws9_0 : iI s9 0 = iI s7 0 := fm_iq Fs9 rfl
  have ws9_74 : iI s9 74 = iI s7 74 := fm_iq Fs9 rfl
  have ws9_9 : iI s9 9 = iI s7 9 := fm_iq Fs9 rfl
  have ws9_90 : iI s9 90 = iI s7 90 := fm_iq Fs9 rfl
  have ws9_12 : iI s9 12 = iI s7 12 := fm_iq Fs9 rfl
  have ws9_89 : iI s9 89 = iI s7 89 := fm_iq Fs9 rfl
  have wos9 : iO s9 = iO s7 := fm_o Fs9 (by decide)
  show WS k 960 [(0, .ref q1), (1, .ref (A 0)), (2, .ref (A 179)), (3, .ref (A 517)), (4, .int (Int32.ofInt i))] [.int (Int32.ofInt e10)] (Wd A dT s9) ce sl
  refine w_pop X.1 (ax_d X (show cdA 350 960 = some (.pop, 1, 0, 0, 0) from rfl)) rfl (z_goto X (t := 1877) rfl rfl (w_widen (ce' := ce + 29) (sl' := sl + 222) (by first | exact Nat.le_add_right _ _ | exact Nat.add_le_add_left (by decide) _ | omega) (by first | exact Nat.le_add_right _ _ | exact Nat.add_le_add_left (by decide) _ | omega) ?_))
  exact WS_lv (lv := [(0, .ref q1), (1, .ref (A 0)), (2, .ref (A 179)), (3, .ref (A 517)), (4, .int (Int32.ofInt i))]) (List.forall_mem_cons.mpr ⟨(List.Mem.head _), (List.forall_mem_cons.mpr ⟨(List.Mem.tail _ (List.Mem.head _)), (List.forall_mem_cons.mpr ⟨(List.Mem.tail _ (List.Mem.tail _ (List.Mem.head _))), (List.forall_mem_cons.mpr ⟨(List.Mem.tail _ (List.Mem.tail _ (List.Mem.tail _ (List.Mem.head _)))), (List.forall_mem_cons.mpr ⟨(List.Mem.tail _ (List.Mem.tail _ (List.Mem.tail _ (List.Mem.tail _ (List.Mem.head _))))), (fun q h => absurd h List.not_mem_nil)⟩)⟩)⟩)⟩)⟩) (hk A _ Is9 JRLx_s9 JFEQ_s9 (by first | exact oq_f34933ba ws9_89 ws7_89 p1 b6.1 | omega) (by first | exact oq_d7ce4408 ws9_12 ws7_12 p2 | omega) (by first | exact oq_5bcdc35f ws9_74 ws9_0 ws7_74 ws7_0 p3 | omega) (by first | exact oq_5bcdc35f ws9_90 ws9_9 ws7_90 ws7_9 p4 | omega))
theorem lc_19 (G : GX l s0 D tys a0 dT) (GR : RS0 s0) (SF : SF0 s0) (GT : TXs0 s0) {k : kx_T} (X : AX k 350 dT) (E : kL k = l ∧ kS0 k = s0 ∧ kD k = D ∧ kR k = room_1) {q1 L : Nat} {xs : Nat → Int32} (S : SX k q1 L xs) (hL : L ≤ 3072) (I : Bd s) (jR : RLx s) (jFEQ : FEQ s) (p1 : iI s 89 = 1) (p2 : iI s 12 ≤ 8) (p3 : iI s 0 = iI s 74) (p4 : iI s 9 = iI s 90) {i : Int} (hi : 0 ≤ i ∧ i + 6 ≤ (L : Int)) {ce sl : Nat} (hce : ce + 29 ≤ 601024) (hsl : sl + 222 ≤ 7293034) (hk : ∀ (A : Nat → Nat) (t : PS), Bd t → RLx t → FEQ t → iI t 89 = 1 → iI t 12 ≤ 8 → iI t 0 = iI t 74 → iI t 9 = iI t 90 → WS k 1877 [(0, .ref q1), (1, .ref (A 0)), (2, .ref (A 179)), (3, .ref (A 517)), (4, .int (Int32.ofInt i))] [] (Wd A dT t) (ce + 29) (sl + 222)) : WS k 964 [(0, .ref q1), (1, .ref (A 0)), (2, .ref (A 179)), (3, .ref (A 517)), (4, .int (Int32.ofInt i))] [] (Wd A dT s) ce sl := by
  have F : Fm [22, 23, 24, 73, 77, 75, 78, 79, 80, 81] [33, 26, 27, 28, 29, 30, 31, 32, 20, 36, 37, 35, 202, 204, 205, 206, 207, 208, 209, 210, 211, 212, 213, 214, 215, 216, 217, 218, 219, 220, 221, 222, 223, 224, 225, 226, 227, 203, 161, 230, 233] s s := fm_rf _ _ s
  have b1 := bi_0 I
  have b2 := bi_74 I
  have b3 := bi_9 I
  have b4 := bi_90 I
  have b5 := bi_12 I
  have b6 := bi_89 I
  refine z_aload_n X (x := A 0) rfl (List.Mem.tail _ (List.Mem.head _)) (z_callV X 0 (rm := rmN 154) (As := []) (st := []) rfl rfl (by decide) rfl (by rw [E.1, E.2.1, E.2.2.1]; exact cs_cost G I ) ⟨by rw [E.2.2.2]; exact (show 12 + 1 ≤ 2048 from oq_f781d9f4), by rw [E.2.2.2]; exact (show 8 + (1 + 11) + 237 ≤ 84000 from oq_d9c24595), by rw [E.2.2.2]; exact (show ce + 0 ≤ 601024 by omega), by rw [E.2.2.2]; exact (show sl + 0 ≤ 7293034 by omega)⟩ (Nat.le_of_ble_eq_true rfl) (fun vv s7 hq => ?_) (fun ee s7 hq => ?_))
  rotate_left
  · obtain ⟨Is7, Fs7, e8, hv, hrs7, hps7⟩ := hq; cases hv
  obtain ⟨Is7, Fs7, e8, hv, hrs7, hps7⟩ := hq
  cases hv
  have Gs7 := fm_tq F Fs7 rfl rfl
  have JRLx_s7 : RLx s7 := RLx_fm Fs7 (by decide) jR
  have JFEQ_s7 : FEQ s7 := FEQ_fm Fs7 (by decide) jFEQ
  have ws7_0 : iI s7 0 = iI s 0 := fm_iq Fs7 rfl
  have ws7_74 : iI s7 74 = iI s 74 := fm_iq Fs7 rfl
  have ws7_9 : iI s7 9 = iI s 9 := fm_iq Fs7 rfl
  have ws7_90 : iI s7 90 = iI s 90 := fm_iq Fs7 rfl
  have ws7_12 : iI s7 12 = iI s 12 := fm_iq Fs7 rfl
  have ws7_89 : iI s7 89 = iI s 89 := fm_iq Fs7 rfl
  have wos7 : iO s7 = iO s := fm_o Fs7 (by decide)
  show WS k 968 [(0, .ref q1), (1, .ref (A 0)), (2, .ref (A 179)), (3, .ref (A 517)), (4, .int (Int32.ofInt i))] [.int (Int32.ofInt e8)] (Wd A dT s7) ce sl
  refine w_pop X.1 (ax_d X (show cdA 350 968 = some (.pop, 1, 0, 0, 0) from rfl)) rfl (z_aload_n X (x := A 179) rfl (List.Mem.tail _ (List.Mem.tail _ (List.Mem.head _))) (z_callV X 179 (rm := rmN 253) (As := []) (st := []) rfl rfl (by decide) rfl (by rw [E.1, E.2.1, E.2.2.1]; exact k_cost G Is7 JRLx_s7 ) ⟨by rw [E.2.2.2]; exact (show 41 + 1 ≤ 2048 from oq_2c2f0271), by rw [E.2.2.2]; exact (show 8 + (1 + 11) + 1663 ≤ 84000 from oq_260410fd), by rw [E.2.2.2]; exact (show ce + 0 ≤ 601024 by omega), by rw [E.2.2.2]; exact (show sl + 0 ≤ 7293034 by omega)⟩ (Nat.le_of_ble_eq_true rfl) (fun vv s9 hq => ?_) (fun ee s9 hq => ?_)))
  rotate_left
  · obtain ⟨Is9, Fs9, JRLx_s9, e10, hv, hrs9, hps9⟩ := hq; cases hv
  obtain ⟨Is9, Fs9, JRLx_s9, e10, hv, hrs9, hps9⟩ := hq
  cases hv
  have Gs9 := fm_tq Gs7 Fs9 rfl rfl
  have JRLx_s9 : RLx s9 := RLx_fm Fs9 (by decide) JRLx_s7
  have JFEQ_s9 : FEQ s9 := FEQ_fm Fs9 (by decide) JFEQ_s7
  have ws9_0 : iI s9 0 = iI s7 0 := fm_iq Fs9 rfl
  have ws9_74 : iI s9 74 = iI s7 74 := fm_iq Fs9 rfl
  have ws9_9 : iI s9 9 = iI s7 9 := fm_iq Fs9 rfl
  have ws9_90 : iI s9 90 = iI s7 90 := fm_iq Fs9 rfl
  have ws9_12 : iI s9 12 = iI s7 12 := fm_iq Fs9 rfl
  have ws9_89 : iI s9 89 = iI s7 89 := fm_iq Fs9 rfl
  have wos9 : iO s9 = iO s7 := fm_o Fs9 (by decide)
  show WS k 973 [(0, .ref q1), (1, .ref (A 0)), (2, .ref (A 179)), (3, .ref (A 517)), (4, .int (Int32.ofInt i))] [.int (Int32.ofInt e10)] (Wd A dT s9) ce sl
  refine w_pop X.1 (ax_d X (show cdA 350 973 = some (.pop, 1, 0, 0, 0) from rfl)) rfl (z_goto X (t := 1877) rfl rfl (w_widen (ce' := ce + 29) (sl' := sl + 222) (by first | exact Nat.le_add_right _ _ | exact Nat.add_le_add_left (by decide) _ | omega) (by first | exact Nat.le_add_right _ _ | exact Nat.add_le_add_left (by decide) _ | omega) ?_))
  exact WS_lv (lv := [(0, .ref q1), (1, .ref (A 0)), (2, .ref (A 179)), (3, .ref (A 517)), (4, .int (Int32.ofInt i))]) (List.forall_mem_cons.mpr ⟨(List.Mem.head _), (List.forall_mem_cons.mpr ⟨(List.Mem.tail _ (List.Mem.head _)), (List.forall_mem_cons.mpr ⟨(List.Mem.tail _ (List.Mem.tail _ (List.Mem.head _))), (List.forall_mem_cons.mpr ⟨(List.Mem.tail _ (List.Mem.tail _ (List.Mem.tail _ (List.Mem.head _)))), (List.forall_mem_cons.mpr ⟨(List.Mem.tail _ (List.Mem.tail _ (List.Mem.tail _ (List.Mem.tail _ (List.Mem.head _))))), (fun q h => absurd h List.not_mem_nil)⟩)⟩)⟩)⟩)⟩) (hk A _ Is9 JRLx_s9 JFEQ_s9 (by first | exact oq_f34933ba ws9_89 ws7_89 p1 b6.1 | omega) (by first | exact oq_d7ce4408 ws9_12 ws7_12 p2 | omega) (by first | exact oq_5bcdc35f ws9_74 ws9_0 ws7_74 ws7_0 p3 | omega) (by first | exact oq_5bcdc35f ws9_90 ws9_9 ws7_90 ws7_9 p4 | omega))
theorem lc_20 (G : GX l s0 D tys a0 dT) (GR : RS0 s0) (SF : SF0 s0) (GT : TXs0 s0) {k : kx_T} (X : AX k 350 dT) (E : kL k = l ∧ kS0 k = s0 ∧ kD k = D ∧ kR k = room_1) {q1 L : Nat} {xs : Nat → Int32} (S : SX k q1 L xs) (hL : L ≤ 3072) (I : Bd s) (jR : RLx s) (jFEQ : FEQ s) (p1 : iI s 89 = 1) (p2 : iI s 12 ≤ 8) (p3 : iI s 0 = iI s 74) (p4 : iI s 9 = iI s 90) {i : Int} (hi : 0 ≤ i ∧ i + 6 ≤ (L : Int)) {ce sl : Nat} (hce : ce + 29 ≤ 601024) (hsl : sl + 222 ≤ 7293034) (hk : ∀ (A : Nat → Nat) (t : PS), Bd t → RLx t → FEQ t → iI t 89 = 1 → iI t 12 ≤ 8 → iI t 0 = iI t 74 → iI t 9 = iI t 90 → WS k 1877 [(0, .ref q1), (1, .ref (A 0)), (2, .ref (A 179)), (3, .ref (A 517)), (4, .int (Int32.ofInt i))] [] (Wd A dT t) (ce + 29) (sl + 222)) : WS k 977 [(0, .ref q1), (1, .ref (A 0)), (2, .ref (A 179)), (3, .ref (A 517)), (4, .int (Int32.ofInt i))] [] (Wd A dT s) ce sl := by
  have F : Fm [22, 23, 24, 25, 26, 27, 73, 77, 75, 78, 79, 80, 81, 92, 93, 94] [33, 26, 27, 28, 29, 30, 31, 32, 20, 36, 37, 21, 35, 38, 1022, 1023, 1460, 202, 204, 205, 206, 207, 208, 209, 210, 211, 212, 213, 214, 215, 216, 217, 218, 219, 220, 221, 222, 223, 224, 225, 226, 227, 203, 161, 230, 233, 231, 232, 228] s s := fm_rf _ _ s
  have b1 := bi_0 I
  have b2 := bi_74 I
  have b3 := bi_9 I
  have b4 := bi_90 I
  have b5 := bi_12 I
  have b6 := bi_89 I
  refine z_aload_n X (x := A 0) rfl (List.Mem.tail _ (List.Mem.head _)) (z_aload_n X (x := q1) rfl (List.Mem.head _) (z_load X (x := i) rfl (List.Mem.tail _ (List.Mem.tail _ (List.Mem.tail _ (List.Mem.tail _ (List.Mem.head _))))) (z_const X rfl (z_add X rfl (z_sld X S hL rfl (show 0 ≤ (i + 1) ∧ (i + 1) < (L : Int) by first | exact sx_in hi (by decide) | omega) ?_)))))
  have sr7 : rng (sc xs (i + 1)) := sc_rng
  refine z_aload_n X (x := A 517) rfl (List.Mem.tail _ (List.Mem.tail _ (List.Mem.tail _ (List.Mem.head _)))) (z_callL X (rm := rmN 330) (As := [.ref (A 0), .int (Int32.ofInt (sc xs (i + 1))), .ref (A 517)]) (st := []) rfl (by decide) rfl (by rw [E.1, E.2.1, E.2.2.1]; exact lw_better G I (by omega)) ⟨by rw [E.2.2.2]; exact (show 14 + 1 ≤ 2048 by decide), by rw [E.2.2.2]; exact (show 8 + (4 + 11) + 289 ≤ 84000 by decide), by rw [E.2.2.2]; exact (show ce + 1 ≤ 601024 by first | exact rmo_1 hce (by decide) | exact rmo_2 hce (by decide) | omega), by rw [E.2.2.2]; exact (show sl + 6 ≤ 7293034 by first | exact rmo_1 hsl (by decide) | exact rmo_2 hsl (by decide) | omega)⟩ (Nat.le_of_ble_eq_true rfl) (fun vv A s8 hA2 hq => ?_) (fun ee A s8 hA2 hq => ?_))
  rotate_left
  · obtain ⟨Is8, Fs8, e9, hv, hrs8, hps8⟩ := hq; cases hv
  obtain ⟨Is8, Fs8, e9, hv, hrs8, hps8⟩ := hq
  cases hv
  rw [← hA2 0 (by decide)]
  rw [← hA2 179 (by decide)]
  rw [← hA2 517 (by decide)]
  have Gs8 := fm_tq F Fs8 rfl rfl
  have JRLx_s8 : RLx s8 := RLx_fm Fs8 (by decide) jR
  have JFEQ_s8 : FEQ s8 := FEQ_fm Fs8 (by decide) jFEQ
  have ws8_0 : iI s8 0 = iI s 0 := fm_iq Fs8 rfl
  have ws8_74 : iI s8 74 = iI s 74 := fm_iq Fs8 rfl
  have ws8_9 : iI s8 9 = iI s 9 := fm_iq Fs8 rfl
  have ws8_90 : iI s8 90 = iI s 90 := fm_iq Fs8 rfl
  have ws8_12 : iI s8 12 = iI s 12 := fm_iq Fs8 rfl
  have ws8_89 : iI s8 89 = iI s 89 := fm_iq Fs8 rfl
  show WS k 988 [(0, .ref q1), (1, .ref (A 0)), (2, .ref (A 179)), (3, .ref (A 517)), (4, .int (Int32.ofInt i))] [.int (Int32.ofInt e9)] (Wd A dT s8) (ce + 1) (sl + 6)
  refine z_store X (lv' := [(5, .int (Int32.ofInt e9)), (0, .ref q1), (1, .ref (A 0)), (2, .ref (A 179)), (3, .ref (A 517)), (4, .int (Int32.ofInt i))]) rfl (by decide) (fun _ h => h) (z_aload_n X (x := A 179) rfl (List.Mem.tail _ (List.Mem.tail _ (List.Mem.tail _ (List.Mem.head _)))) (z_aload_n X (x := q1) rfl (List.Mem.tail _ (List.Mem.head _)) (z_load X (x := i) rfl (List.Mem.tail _ (List.Mem.tail _ (List.Mem.tail _ (List.Mem.tail _ (List.Mem.tail _ (List.Mem.head _)))))) (z_const X rfl (z_add X rfl (z_sld X S hL rfl (show 0 ≤ (i + 1) ∧ (i + 1) < (L : Int) by first | exact sx_in hi (by decide) | omega) ?_))))))
  have sr10 : rng (sc xs (i + 1)) := sc_rng
  refine z_callV X 179 (rm := rmN 256) (As := [.int (Int32.ofInt (sc xs (i + 1)))]) (st := []) rfl rfl (by decide) rfl (by rw [E.1, E.2.1, E.2.2.1]; exact k_better G Is8 JRLx_s8 (by first | exact ⟨sr10.1, sr10.2⟩ | omega)) ⟨by rw [E.2.2.2]; exact (show 42 + 1 ≤ 2048 from oq_38aede7b), by rw [E.2.2.2]; exact (show 8 + (2 + 11) + 1687 ≤ 84000 from oq_b5fdcedd), by rw [E.2.2.2]; exact (show (ce + 1) + 0 ≤ 601024 by omega), by rw [E.2.2.2]; exact (show (sl + 6) + 0 ≤ 7293034 by omega)⟩ (Nat.le_of_ble_eq_true rfl) (fun vv s11 hq => ?_) (fun ee s11 hq => ?_)
  rotate_left
  · obtain ⟨Is11, Fs11, JRLx_s11, e12, hv, hrs11, hps11⟩ := hq; cases hv
  obtain ⟨Is11, Fs11, JRLx_s11, e12, hv, hrs11, hps11⟩ := hq
  cases hv
  have Gs11 := fm_tq Gs8 Fs11 rfl rfl
  have JRLx_s11 : RLx s11 := RLx_fm Fs11 (by decide) JRLx_s8
  have JFEQ_s11 : FEQ s11 := FEQ_fm Fs11 (by decide) JFEQ_s8
  have ws11_0 : iI s11 0 = iI s8 0 := fm_iq Fs11 rfl
  have ws11_74 : iI s11 74 = iI s8 74 := fm_iq Fs11 rfl
  have ws11_9 : iI s11 9 = iI s8 9 := fm_iq Fs11 rfl
  have ws11_90 : iI s11 90 = iI s8 90 := fm_iq Fs11 rfl
  have ws11_12 : iI s11 12 = iI s8 12 := fm_iq Fs11 rfl
  have ws11_89 : iI s11 89 = iI s8 89 := fm_iq Fs11 rfl
  have wos11 : iO s11 = iO s8 := fm_o Fs11 (by decide)
  show WS k 1000 [(5, .int (Int32.ofInt e9)), (0, .ref q1), (1, .ref (A 0)), (2, .ref (A 179)), (3, .ref (A 517)), (4, .int (Int32.ofInt i))] [.int (Int32.ofInt e12)] (Wd A dT s11) (ce + 1) (sl + 6)
  refine z_store X (lv' := [(6, .int (Int32.ofInt e12)), (5, .int (Int32.ofInt e9)), (0, .ref q1), (1, .ref (A 0)), (2, .ref (A 179)), (3, .ref (A 517)), (4, .int (Int32.ofInt i))]) rfl (by decide) (fun _ h => h) (z_goto X (t := 1877) rfl rfl (w_widen (ce' := ce + 29) (sl' := sl + 222) (by first | exact Nat.le_add_right _ _ | exact Nat.add_le_add_left (by decide) _ | omega) (by first | exact Nat.le_add_right _ _ | exact Nat.add_le_add_left (by decide) _ | omega) ?_))
  exact WS_lv (lv := [(0, .ref q1), (1, .ref (A 0)), (2, .ref (A 179)), (3, .ref (A 517)), (4, .int (Int32.ofInt i))]) (List.forall_mem_cons.mpr ⟨(List.Mem.tail _ (List.Mem.tail _ (List.Mem.head _))), (List.forall_mem_cons.mpr ⟨(List.Mem.tail _ (List.Mem.tail _ (List.Mem.tail _ (List.Mem.head _)))), (List.forall_mem_cons.mpr ⟨(List.Mem.tail _ (List.Mem.tail _ (List.Mem.tail _ (List.Mem.tail _ (List.Mem.head _))))), (List.forall_mem_cons.mpr ⟨(List.Mem.tail _ (List.Mem.tail _ (List.Mem.tail _ (List.Mem.tail _ (List.Mem.tail _ (List.Mem.head _)))))), (List.forall_mem_cons.mpr ⟨(List.Mem.tail _ (List.Mem.tail _ (List.Mem.tail _ (List.Mem.tail _ (List.Mem.tail _ (List.Mem.tail _ (List.Mem.head _))))))), (fun q h => absurd h List.not_mem_nil)⟩)⟩)⟩)⟩)⟩) (hk A _ Is11 JRLx_s11 JFEQ_s11 (by first | exact oq_f34933ba ws11_89 ws8_89 p1 b6.1 | omega) (by first | exact oq_d7ce4408 ws11_12 ws8_12 p2 | omega) (by first | exact oq_5bcdc35f ws11_74 ws11_0 ws8_74 ws8_0 p3 | omega) (by first | exact oq_5bcdc35f ws11_90 ws11_9 ws8_90 ws8_9 p4 | omega))
theorem lc_21 (G : GX l s0 D tys a0 dT) (GR : RS0 s0) (SF : SF0 s0) (GT : TXs0 s0) {k : kx_T} (X : AX k 350 dT) (E : kL k = l ∧ kS0 k = s0 ∧ kD k = D ∧ kR k = room_1) {q1 L : Nat} {xs : Nat → Int32} (S : SX k q1 L xs) (hL : L ≤ 3072) (I : Bd s) (jR : RLx s) (jFEQ : FEQ s) (p1 : iI s 89 = 1) (p2 : iI s 12 ≤ 8) (p3 : iI s 0 = iI s 74) (p4 : iI s 9 = iI s 90) {i : Int} (hi : 0 ≤ i ∧ i + 6 ≤ (L : Int)) {ce sl : Nat} (hce : ce + 29 ≤ 601024) (hsl : sl + 222 ≤ 7293034) (hk : ∀ (A : Nat → Nat) (t : PS), Bd t → RLx t → FEQ t → iI t 89 = 1 → iI t 12 ≤ 8 → iI t 0 = iI t 74 → iI t 9 = iI t 90 → WS k 1877 [(0, .ref q1), (1, .ref (A 0)), (2, .ref (A 179)), (3, .ref (A 517)), (4, .int (Int32.ofInt i))] [] (Wd A dT t) (ce + 29) (sl + 222)) : WS k 1005 [(0, .ref q1), (1, .ref (A 0)), (2, .ref (A 179)), (3, .ref (A 517)), (4, .int (Int32.ofInt i))] [] (Wd A dT s) ce sl := by
  have F : Fm [22, 23, 24, 25, 26, 27, 73, 77, 75, 78, 79, 80, 81, 92, 93, 94] [33, 26, 27, 28, 29, 30, 31, 32, 20, 36, 37, 21, 35, 38, 1022, 1023, 1460, 202, 204, 205, 206, 207, 208, 209, 210, 211, 212, 213, 214, 215, 216, 217, 218, 219, 220, 221, 222, 223, 224, 225, 226, 227, 203, 161, 230, 233, 231, 232, 228] s s := fm_rf _ _ s
  have b1 := bi_0 I
  have b2 := bi_74 I
  have b3 := bi_9 I
  have b4 := bi_90 I
  have b5 := bi_12 I
  have b6 := bi_89 I
  refine z_aload_n X (x := A 0) rfl (List.Mem.tail _ (List.Mem.head _)) (z_aload_n X (x := q1) rfl (List.Mem.head _) (z_load X (x := i) rfl (List.Mem.tail _ (List.Mem.tail _ (List.Mem.tail _ (List.Mem.tail _ (List.Mem.head _))))) (z_const X rfl (z_add X rfl (z_sld X S hL rfl (show 0 ≤ (i + 1) ∧ (i + 1) < (L : Int) by first | exact sx_in hi (by decide) | omega) ?_)))))
  have sr7 : rng (sc xs (i + 1)) := sc_rng
  refine z_aload_n X (x := A 517) rfl (List.Mem.tail _ (List.Mem.tail _ (List.Mem.tail _ (List.Mem.head _)))) (z_callL X (rm := rmN 331) (As := [.ref (A 0), .int (Int32.ofInt (sc xs (i + 1))), .ref (A 517)]) (st := []) rfl (by decide) rfl (by rw [E.1, E.2.1, E.2.2.1]; exact lw_grow G I (by omega)) ⟨by rw [E.2.2.2]; exact (show 14 + 1 ≤ 2048 by decide), by rw [E.2.2.2]; exact (show 8 + (4 + 11) + 290 ≤ 84000 by decide), by rw [E.2.2.2]; exact (show ce + 1 ≤ 601024 by first | exact rmo_1 hce (by decide) | exact rmo_2 hce (by decide) | omega), by rw [E.2.2.2]; exact (show sl + 6 ≤ 7293034 by first | exact rmo_1 hsl (by decide) | exact rmo_2 hsl (by decide) | omega)⟩ (Nat.le_of_ble_eq_true rfl) (fun vv A s8 hA2 hq => ?_) (fun ee A s8 hA2 hq => ?_))
  rotate_left
  · obtain ⟨Is8, Fs8, e9, hv, hrs8, hps8⟩ := hq; cases hv
  obtain ⟨Is8, Fs8, e9, hv, hrs8, hps8⟩ := hq
  cases hv
  rw [← hA2 0 (by decide)]
  rw [← hA2 179 (by decide)]
  rw [← hA2 517 (by decide)]
  have Gs8 := fm_tq F Fs8 rfl rfl
  have JRLx_s8 : RLx s8 := RLx_fm Fs8 (by decide) jR
  have JFEQ_s8 : FEQ s8 := FEQ_fm Fs8 (by decide) jFEQ
  have ws8_0 : iI s8 0 = iI s 0 := fm_iq Fs8 rfl
  have ws8_74 : iI s8 74 = iI s 74 := fm_iq Fs8 rfl
  have ws8_9 : iI s8 9 = iI s 9 := fm_iq Fs8 rfl
  have ws8_90 : iI s8 90 = iI s 90 := fm_iq Fs8 rfl
  have ws8_12 : iI s8 12 = iI s 12 := fm_iq Fs8 rfl
  have ws8_89 : iI s8 89 = iI s 89 := fm_iq Fs8 rfl
  show WS k 1016 [(0, .ref q1), (1, .ref (A 0)), (2, .ref (A 179)), (3, .ref (A 517)), (4, .int (Int32.ofInt i))] [.int (Int32.ofInt e9)] (Wd A dT s8) (ce + 1) (sl + 6)
  refine z_store X (lv' := [(5, .int (Int32.ofInt e9)), (0, .ref q1), (1, .ref (A 0)), (2, .ref (A 179)), (3, .ref (A 517)), (4, .int (Int32.ofInt i))]) rfl (by decide) (fun _ h => h) (z_aload_n X (x := A 179) rfl (List.Mem.tail _ (List.Mem.tail _ (List.Mem.tail _ (List.Mem.head _)))) (z_aload_n X (x := q1) rfl (List.Mem.tail _ (List.Mem.head _)) (z_load X (x := i) rfl (List.Mem.tail _ (List.Mem.tail _ (List.Mem.tail _ (List.Mem.tail _ (List.Mem.tail _ (List.Mem.head _)))))) (z_const X rfl (z_add X rfl (z_sld X S hL rfl (show 0 ≤ (i + 1) ∧ (i + 1) < (L : Int) by first | exact sx_in hi (by decide) | omega) ?_))))))
  have sr10 : rng (sc xs (i + 1)) := sc_rng
  refine z_callV X 179 (rm := rmN 257) (As := [.int (Int32.ofInt (sc xs (i + 1)))]) (st := []) rfl rfl (by decide) rfl (by rw [E.1, E.2.1, E.2.2.1]; exact k_grow G Is8 JRLx_s8 (by first | exact ⟨sr10.1, sr10.2⟩ | omega)) ⟨by rw [E.2.2.2]; exact (show 42 + 1 ≤ 2048 from oq_38aede7b), by rw [E.2.2.2]; exact (show 8 + (3 + 11) + 1687 ≤ 84000 from oq_e190c71b), by rw [E.2.2.2]; exact (show (ce + 1) + 0 ≤ 601024 by omega), by rw [E.2.2.2]; exact (show (sl + 6) + 0 ≤ 7293034 by omega)⟩ (Nat.le_of_ble_eq_true rfl) (fun vv s11 hq => ?_) (fun ee s11 hq => ?_)
  rotate_left
  · obtain ⟨Is11, Fs11, JRLx_s11, e12, hv, hrs11, hps11⟩ := hq; cases hv
  obtain ⟨Is11, Fs11, JRLx_s11, e12, hv, hrs11, hps11⟩ := hq
  cases hv
  have Gs11 := fm_tq Gs8 Fs11 rfl rfl
  have JRLx_s11 : RLx s11 := RLx_fm Fs11 (by decide) JRLx_s8
  have JFEQ_s11 : FEQ s11 := FEQ_fm Fs11 (by decide) JFEQ_s8
  have ws11_0 : iI s11 0 = iI s8 0 := fm_iq Fs11 rfl
  have ws11_74 : iI s11 74 = iI s8 74 := fm_iq Fs11 rfl
  have ws11_9 : iI s11 9 = iI s8 9 := fm_iq Fs11 rfl
  have ws11_90 : iI s11 90 = iI s8 90 := fm_iq Fs11 rfl
  have ws11_12 : iI s11 12 = iI s8 12 := fm_iq Fs11 rfl
  have ws11_89 : iI s11 89 = iI s8 89 := fm_iq Fs11 rfl
  have wos11 : iO s11 = iO s8 := fm_o Fs11 (by decide)
  show WS k 1028 [(5, .int (Int32.ofInt e9)), (0, .ref q1), (1, .ref (A 0)), (2, .ref (A 179)), (3, .ref (A 517)), (4, .int (Int32.ofInt i))] [.int (Int32.ofInt e12)] (Wd A dT s11) (ce + 1) (sl + 6)
  refine z_store X (lv' := [(6, .int (Int32.ofInt e12)), (5, .int (Int32.ofInt e9)), (0, .ref q1), (1, .ref (A 0)), (2, .ref (A 179)), (3, .ref (A 517)), (4, .int (Int32.ofInt i))]) rfl (by decide) (fun _ h => h) (z_goto X (t := 1877) rfl rfl (w_widen (ce' := ce + 29) (sl' := sl + 222) (by first | exact Nat.le_add_right _ _ | exact Nat.add_le_add_left (by decide) _ | omega) (by first | exact Nat.le_add_right _ _ | exact Nat.add_le_add_left (by decide) _ | omega) ?_))
  exact WS_lv (lv := [(0, .ref q1), (1, .ref (A 0)), (2, .ref (A 179)), (3, .ref (A 517)), (4, .int (Int32.ofInt i))]) (List.forall_mem_cons.mpr ⟨(List.Mem.tail _ (List.Mem.tail _ (List.Mem.head _))), (List.forall_mem_cons.mpr ⟨(List.Mem.tail _ (List.Mem.tail _ (List.Mem.tail _ (List.Mem.head _)))), (List.forall_mem_cons.mpr ⟨(List.Mem.tail _ (List.Mem.tail _ (List.Mem.tail _ (List.Mem.tail _ (List.Mem.head _))))), (List.forall_mem_cons.mpr ⟨(List.Mem.tail _ (List.Mem.tail _ (List.Mem.tail _ (List.Mem.tail _ (List.Mem.tail _ (List.Mem.head _)))))), (List.forall_mem_cons.mpr ⟨(List.Mem.tail _ (List.Mem.tail _ (List.Mem.tail _ (List.Mem.tail _ (List.Mem.tail _ (List.Mem.tail _ (List.Mem.head _))))))), (fun q h => absurd h List.not_mem_nil)⟩)⟩)⟩)⟩)⟩) (hk A _ Is11 JRLx_s11 JFEQ_s11 (by first | exact oq_f34933ba ws11_89 ws8_89 p1 b6.1 | omega) (by first | exact oq_d7ce4408 ws11_12 ws8_12 p2 | omega) (by first | exact oq_5bcdc35f ws11_74 ws11_0 ws8_74 ws8_0 p3 | omega) (by first | exact oq_5bcdc35f ws11_90 ws11_9 ws8_90 ws8_9 p4 | omega))
theorem lc_22 (G : GX l s0 D tys a0 dT) (GR : RS0 s0) (SF : SF0 s0) (GT : TXs0 s0) {k : kx_T} (X : AX k 350 dT) (E : kL k = l ∧ kS0 k = s0 ∧ kD k = D ∧ kR k = room_1) {q1 L : Nat} {xs : Nat → Int32} (S : SX k q1 L xs) (hL : L ≤ 3072) (I : Bd s) (jR : RLx s) (jFEQ : FEQ s) (p1 : iI s 89 = 1) (p2 : iI s 12 ≤ 8) (p3 : iI s 0 = iI s 74) (p4 : iI s 9 = iI s 90) {i : Int} (hi : 0 ≤ i ∧ i + 6 ≤ (L : Int)) {ce sl : Nat} (hce : ce + 29 ≤ 601024) (hsl : sl + 222 ≤ 7293034) (hk : ∀ (A : Nat → Nat) (t : PS), Bd t → RLx t → FEQ t → iI t 89 = 1 → iI t 12 ≤ 8 → iI t 0 = iI t 74 → iI t 9 = iI t 90 → WS k 1877 [(0, .ref q1), (1, .ref (A 0)), (2, .ref (A 179)), (3, .ref (A 517)), (4, .int (Int32.ofInt i))] [] (Wd A dT t) (ce + 29) (sl + 222)) : WS k 1033 [(0, .ref q1), (1, .ref (A 0)), (2, .ref (A 179)), (3, .ref (A 517)), (4, .int (Int32.ofInt i))] [] (Wd A dT s) ce sl := by
  have F : Fm [28, 73, 97] [39, 1460, 234] s s := fm_rf _ _ s
  have b1 := bi_0 I
  have b2 := bi_74 I
  have b3 := bi_9 I
  have b4 := bi_90 I
  have b5 := bi_12 I
  have b6 := bi_89 I
  refine z_aload_n X (x := A 0) rfl (List.Mem.tail _ (List.Mem.head _)) (z_aload_n X (x := q1) rfl (List.Mem.head _) (z_load X (x := i) rfl (List.Mem.tail _ (List.Mem.tail _ (List.Mem.tail _ (List.Mem.tail _ (List.Mem.head _))))) (z_const X rfl (z_add X rfl (z_sld X S hL rfl (show 0 ≤ (i + 1) ∧ (i + 1) < (L : Int) by first | exact sx_in hi (by decide) | omega) ?_)))))
  have sr7 : rng (sc xs (i + 1)) := sc_rng
  refine z_aload_n X (x := A 517) rfl (List.Mem.tail _ (List.Mem.tail _ (List.Mem.tail _ (List.Mem.head _)))) (z_callL X (rm := rmN 332) (As := [.ref (A 0), .int (Int32.ofInt (sc xs (i + 1))), .ref (A 517)]) (st := []) rfl (by decide) rfl (by rw [E.1, E.2.1, E.2.2.1]; exact lw_region G I (by omega)) ⟨by rw [E.2.2.2]; exact (show 8 + 1 ≤ 2048 by decide), by rw [E.2.2.2]; exact (show 8 + (4 + 11) + 143 ≤ 84000 by decide), by rw [E.2.2.2]; exact (show ce + 1 ≤ 601024 by first | exact rmo_1 hce (by decide) | exact rmo_2 hce (by decide) | omega), by rw [E.2.2.2]; exact (show sl + 6 ≤ 7293034 by first | exact rmo_1 hsl (by decide) | exact rmo_2 hsl (by decide) | omega)⟩ (Nat.le_of_ble_eq_true rfl) (fun vv A s8 hA2 hq => ?_) (fun ee A s8 hA2 hq => ?_))
  rotate_left
  · obtain ⟨Is8, Fs8, e9, hv, hrs8, hps8⟩ := hq; cases hv
  obtain ⟨Is8, Fs8, e9, hv, hrs8, hps8⟩ := hq
  cases hv
  rw [← hA2 0 (by decide)]
  rw [← hA2 179 (by decide)]
  rw [← hA2 517 (by decide)]
  have Gs8 := fm_tq F Fs8 rfl rfl
  have JRLx_s8 : RLx s8 := RLx_fm Fs8 (by decide) jR
  have JFEQ_s8 : FEQ s8 := FEQ_fm Fs8 (by decide) jFEQ
  have ws8_0 : iI s8 0 = iI s 0 := fm_iq Fs8 rfl
  have ws8_74 : iI s8 74 = iI s 74 := fm_iq Fs8 rfl
  have ws8_9 : iI s8 9 = iI s 9 := fm_iq Fs8 rfl
  have ws8_90 : iI s8 90 = iI s 90 := fm_iq Fs8 rfl
  have ws8_12 : iI s8 12 = iI s 12 := fm_iq Fs8 rfl
  have ws8_89 : iI s8 89 = iI s 89 := fm_iq Fs8 rfl
  show WS k 1044 [(0, .ref q1), (1, .ref (A 0)), (2, .ref (A 179)), (3, .ref (A 517)), (4, .int (Int32.ofInt i))] [.int (Int32.ofInt e9)] (Wd A dT s8) (ce + 1) (sl + 6)
  refine z_store X (lv' := [(5, .int (Int32.ofInt e9)), (0, .ref q1), (1, .ref (A 0)), (2, .ref (A 179)), (3, .ref (A 517)), (4, .int (Int32.ofInt i))]) rfl (by decide) (fun _ h => h) (z_aload_n X (x := A 179) rfl (List.Mem.tail _ (List.Mem.tail _ (List.Mem.tail _ (List.Mem.head _)))) (z_aload_n X (x := q1) rfl (List.Mem.tail _ (List.Mem.head _)) (z_load X (x := i) rfl (List.Mem.tail _ (List.Mem.tail _ (List.Mem.tail _ (List.Mem.tail _ (List.Mem.tail _ (List.Mem.head _)))))) (z_const X rfl (z_add X rfl (z_sld X S hL rfl (show 0 ≤ (i + 1) ∧ (i + 1) < (L : Int) by first | exact sx_in hi (by decide) | omega) ?_))))))
  have sr10 : rng (sc xs (i + 1)) := sc_rng
  refine z_callV X 179 (rm := rmN 258) (As := [.int (Int32.ofInt (sc xs (i + 1)))]) (st := []) rfl rfl (by decide) rfl (by rw [E.1, E.2.1, E.2.2.1]; exact k_region G Is8 (by first | exact ⟨sr10.1, sr10.2⟩ | omega)) ⟨by rw [E.2.2.2]; exact (show 7 + 1 ≤ 2048 from oq_4e6106eb), by rw [E.2.2.2]; exact (show 8 + (3 + 11) + 122 ≤ 84000 from oq_38d194b9), by rw [E.2.2.2]; exact (show (ce + 1) + 0 ≤ 601024 by omega), by rw [E.2.2.2]; exact (show (sl + 6) + 0 ≤ 7293034 by omega)⟩ (Nat.le_of_ble_eq_true rfl) (fun vv s11 hq => ?_) (fun ee s11 hq => ?_)
  rotate_left
  · obtain ⟨Is11, Fs11, e12, hv, hrs11, hps11⟩ := hq; cases hv
  obtain ⟨Is11, Fs11, e12, hv, hrs11, hps11⟩ := hq
  cases hv
  have Gs11 := fm_tq Gs8 Fs11 rfl rfl
  have JRLx_s11 : RLx s11 := RLx_fm Fs11 (by decide) JRLx_s8
  have JFEQ_s11 : FEQ s11 := FEQ_fm Fs11 (by decide) JFEQ_s8
  have ws11_0 : iI s11 0 = iI s8 0 := fm_iq Fs11 rfl
  have ws11_74 : iI s11 74 = iI s8 74 := fm_iq Fs11 rfl
  have ws11_9 : iI s11 9 = iI s8 9 := fm_iq Fs11 rfl
  have ws11_90 : iI s11 90 = iI s8 90 := fm_iq Fs11 rfl
  have ws11_12 : iI s11 12 = iI s8 12 := fm_iq Fs11 rfl
  have ws11_89 : iI s11 89 = iI s8 89 := fm_iq Fs11 rfl
  have wos11 : iO s11 = iO s8 := fm_o Fs11 (by decide)
  show WS k 1056 [(5, .int (Int32.ofInt e9)), (0, .ref q1), (1, .ref (A 0)), (2, .ref (A 179)), (3, .ref (A 517)), (4, .int (Int32.ofInt i))] [.int (Int32.ofInt e12)] (Wd A dT s11) (ce + 1) (sl + 6)
  refine z_store X (lv' := [(6, .int (Int32.ofInt e12)), (5, .int (Int32.ofInt e9)), (0, .ref q1), (1, .ref (A 0)), (2, .ref (A 179)), (3, .ref (A 517)), (4, .int (Int32.ofInt i))]) rfl (by decide) (fun _ h => h) (z_goto X (t := 1877) rfl rfl (w_widen (ce' := ce + 29) (sl' := sl + 222) (by first | exact Nat.le_add_right _ _ | exact Nat.add_le_add_left (by decide) _ | omega) (by first | exact Nat.le_add_right _ _ | exact Nat.add_le_add_left (by decide) _ | omega) ?_))
  exact WS_lv (lv := [(0, .ref q1), (1, .ref (A 0)), (2, .ref (A 179)), (3, .ref (A 517)), (4, .int (Int32.ofInt i))]) (List.forall_mem_cons.mpr ⟨(List.Mem.tail _ (List.Mem.tail _ (List.Mem.head _))), (List.forall_mem_cons.mpr ⟨(List.Mem.tail _ (List.Mem.tail _ (List.Mem.tail _ (List.Mem.head _)))), (List.forall_mem_cons.mpr ⟨(List.Mem.tail _ (List.Mem.tail _ (List.Mem.tail _ (List.Mem.tail _ (List.Mem.head _))))), (List.forall_mem_cons.mpr ⟨(List.Mem.tail _ (List.Mem.tail _ (List.Mem.tail _ (List.Mem.tail _ (List.Mem.tail _ (List.Mem.head _)))))), (List.forall_mem_cons.mpr ⟨(List.Mem.tail _ (List.Mem.tail _ (List.Mem.tail _ (List.Mem.tail _ (List.Mem.tail _ (List.Mem.tail _ (List.Mem.head _))))))), (fun q h => absurd h List.not_mem_nil)⟩)⟩)⟩)⟩)⟩) (hk A _ Is11 JRLx_s11 JFEQ_s11 (by first | exact oq_f34933ba ws11_89 ws8_89 p1 b6.1 | omega) (by first | exact oq_d7ce4408 ws11_12 ws8_12 p2 | omega) (by first | exact oq_5bcdc35f ws11_74 ws11_0 ws8_74 ws8_0 p3 | omega) (by first | exact oq_5bcdc35f ws11_90 ws11_9 ws8_90 ws8_9 p4 | omega))
theorem lc_23 (G : GX l s0 D tys a0 dT) (GR : RS0 s0) (SF : SF0 s0) (GT : TXs0 s0) {k : kx_T} (X : AX k 350 dT) (E : kL k = l ∧ kS0 k = s0 ∧ kD k = D ∧ kR k = room_1) {q1 L : Nat} {xs : Nat → Int32} (S : SX k q1 L xs) (hL : L ≤ 3072) (I : Bd s) (jR : RLx s) (jFEQ : FEQ s) (p1 : iI s 89 = 1) (p2 : iI s 12 ≤ 8) (p3 : iI s 0 = iI s 74) (p4 : iI s 9 = iI s 90) {i : Int} (hi : 0 ≤ i ∧ i + 6 ≤ (L : Int)) {ce sl : Nat} (hce : ce + 29 ≤ 601024) (hsl : sl + 222 ≤ 7293034) (hk : ∀ (A : Nat → Nat) (t : PS), Bd t → RLx t → FEQ t → iI t 89 = 1 → iI t 12 ≤ 8 → iI t 0 = iI t 74 → iI t 9 = iI t 90 → WS k 1877 [(0, .ref q1), (1, .ref (A 0)), (2, .ref (A 179)), (3, .ref (A 517)), (4, .int (Int32.ofInt i))] [] (Wd A dT t) (ce + 29) (sl + 222)) : WS k 1061 [(0, .ref q1), (1, .ref (A 0)), (2, .ref (A 179)), (3, .ref (A 517)), (4, .int (Int32.ofInt i))] [] (Wd A dT s) ce sl := by
  have F : Fm [22, 23, 24, 31, 29, 30, 73, 77, 75, 78, 79, 80, 81, 100, 101] [33, 26, 27, 28, 29, 30, 31, 32, 20, 40, 41, 42, 45, 43, 44, 1460, 202, 204, 205, 206, 207, 208, 209, 210, 211, 212, 213, 214, 215, 216, 217, 218, 219, 220, 221, 222, 223, 224, 225, 226, 227, 203, 161, 230, 231, 232, 240, 238, 239, 236, 235] s s := fm_rf _ _ s
  have b1 := bi_0 I
  have b2 := bi_74 I
  have b3 := bi_9 I
  have b4 := bi_90 I
  have b5 := bi_12 I
  have b6 := bi_89 I
  refine z_aload_n X (x := A 0) rfl (List.Mem.tail _ (List.Mem.head _)) (z_aload_n X (x := q1) rfl (List.Mem.head _) (z_load X (x := i) rfl (List.Mem.tail _ (List.Mem.tail _ (List.Mem.tail _ (List.Mem.tail _ (List.Mem.head _))))) (z_const X rfl (z_add X rfl (z_sld X S hL rfl (show 0 ≤ (i + 1) ∧ (i + 1) < (L : Int) by first | exact sx_in hi (by decide) | omega) ?_)))))
  have sr7 : rng (sc xs (i + 1)) := sc_rng
  refine z_aload_n X (x := q1) rfl (List.Mem.head _) (z_load X (x := i) rfl (List.Mem.tail _ (List.Mem.tail _ (List.Mem.tail _ (List.Mem.tail _ (List.Mem.head _))))) (z_const X rfl (z_add X rfl (z_sld X S hL rfl (show 0 ≤ (i + 2) ∧ (i + 2) < (L : Int) by first | exact sx_in hi (by decide) | omega) ?_))))
  have sr8 : rng (sc xs (i + 2)) := sc_rng
  refine z_aload_n X (x := A 517) rfl (List.Mem.tail _ (List.Mem.tail _ (List.Mem.tail _ (List.Mem.head _)))) (z_callL X (rm := rmN 333) (As := [.ref (A 0), .int (Int32.ofInt (sc xs (i + 1))), .int (Int32.ofInt (sc xs (i + 2))), .ref (A 517)]) (st := []) rfl (by decide) rfl (by rw [E.1, E.2.1, E.2.2.1]; exact lw_parted G I (by omega) (by omega)) ⟨by rw [E.2.2.2]; exact (show 35 + 1 ≤ 2048 by decide), by rw [E.2.2.2]; exact (show 8 + (5 + 11) + 1468 ≤ 84000 by decide), by rw [E.2.2.2]; exact (show ce + 2 ≤ 601024 by first | exact rmo_1 hce (by decide) | exact rmo_2 hce (by decide) | omega), by rw [E.2.2.2]; exact (show sl + 12 ≤ 7293034 by first | exact rmo_1 hsl (by decide) | exact rmo_2 hsl (by decide) | omega)⟩ (Nat.le_of_ble_eq_true rfl) (fun vv A s9 hA2 hq => ?_) (fun ee A s9 hA2 hq => ?_))
  rotate_left
  · obtain ⟨Is9, Fs9, e10, hv, hrs9, hps9⟩ := hq; cases hv
  obtain ⟨Is9, Fs9, e10, hv, hrs9, hps9⟩ := hq
  cases hv
  rw [← hA2 0 (by decide)]
  rw [← hA2 179 (by decide)]
  rw [← hA2 517 (by decide)]
  have Gs9 := fm_tq F Fs9 rfl rfl
  have JRLx_s9 : RLx s9 := RLx_fm Fs9 (by decide) jR
  have JFEQ_s9 : FEQ s9 := FEQ_fm Fs9 (by decide) jFEQ
  have ws9_0 : iI s9 0 = iI s 0 := fm_iq Fs9 rfl
  have ws9_74 : iI s9 74 = iI s 74 := fm_iq Fs9 rfl
  have ws9_9 : iI s9 9 = iI s 9 := fm_iq Fs9 rfl
  have ws9_90 : iI s9 90 = iI s 90 := fm_iq Fs9 rfl
  have ws9_12 : iI s9 12 = iI s 12 := fm_iq Fs9 rfl
  have ws9_89 : iI s9 89 = iI s 89 := fm_iq Fs9 rfl
  show WS k 1078 [(0, .ref q1), (1, .ref (A 0)), (2, .ref (A 179)), (3, .ref (A 517)), (4, .int (Int32.ofInt i))] [.int (Int32.ofInt e10)] (Wd A dT s9) (ce + 2) (sl + 12)
  refine z_store X (lv' := [(5, .int (Int32.ofInt e10)), (0, .ref q1), (1, .ref (A 0)), (2, .ref (A 179)), (3, .ref (A 517)), (4, .int (Int32.ofInt i))]) rfl (by decide) (fun _ h => h) (z_aload_n X (x := A 179) rfl (List.Mem.tail _ (List.Mem.tail _ (List.Mem.tail _ (List.Mem.head _)))) (z_aload_n X (x := q1) rfl (List.Mem.tail _ (List.Mem.head _)) (z_load X (x := i) rfl (List.Mem.tail _ (List.Mem.tail _ (List.Mem.tail _ (List.Mem.tail _ (List.Mem.tail _ (List.Mem.head _)))))) (z_const X rfl (z_add X rfl (z_sld X S hL rfl (show 0 ≤ (i + 1) ∧ (i + 1) < (L : Int) by first | exact sx_in hi (by decide) | omega) ?_))))))
  have sr11 : rng (sc xs (i + 1)) := sc_rng
  refine z_aload_n X (x := q1) rfl (List.Mem.tail _ (List.Mem.head _)) (z_load X (x := i) rfl (List.Mem.tail _ (List.Mem.tail _ (List.Mem.tail _ (List.Mem.tail _ (List.Mem.tail _ (List.Mem.head _)))))) (z_const X rfl (z_add X rfl (z_sld X S hL rfl (show 0 ≤ (i + 2) ∧ (i + 2) < (L : Int) by first | exact sx_in hi (by decide) | omega) ?_))))
  have sr12 : rng (sc xs (i + 2)) := sc_rng
  refine z_callV X 179 (rm := rmN 263) (As := [.int (Int32.ofInt (sc xs (i + 1))), .int (Int32.ofInt (sc xs (i + 2)))]) (st := []) rfl rfl (by decide) rfl (by rw [E.1, E.2.1, E.2.2.1]; exact k_parted G Is9 JRLx_s9 (by first | exact ⟨sr11.1, sr11.2⟩ | omega) (by first | exact ⟨sr12.1, sr12.2⟩ | omega)) ⟨by rw [E.2.2.2]; exact (show 38 + 1 ≤ 2048 from oq_a3fac05c), by rw [E.2.2.2]; exact (show 8 + (3 + 11) + 1601 ≤ 84000 from oq_e81fc71d), by rw [E.2.2.2]; exact (show (ce + 2) + 0 ≤ 601024 by omega), by rw [E.2.2.2]; exact (show (sl + 12) + 0 ≤ 7293034 by omega)⟩ (Nat.le_of_ble_eq_true rfl) (fun vv s13 hq => ?_) (fun ee s13 hq => ?_)
  rotate_left
  · obtain ⟨Is13, Fs13, JRLx_s13, e14, hv, hrs13, hps13⟩ := hq; cases hv
  obtain ⟨Is13, Fs13, JRLx_s13, e14, hv, hrs13, hps13⟩ := hq
  cases hv
  have Gs13 := fm_tq Gs9 Fs13 rfl rfl
  have JRLx_s13 : RLx s13 := RLx_fm Fs13 (by decide) JRLx_s9
  have JFEQ_s13 : FEQ s13 := FEQ_fm Fs13 (by decide) JFEQ_s9
  have ws13_0 : iI s13 0 = iI s9 0 := fm_iq Fs13 rfl
  have ws13_74 : iI s13 74 = iI s9 74 := fm_iq Fs13 rfl
  have ws13_9 : iI s13 9 = iI s9 9 := fm_iq Fs13 rfl
  have ws13_90 : iI s13 90 = iI s9 90 := fm_iq Fs13 rfl
  have ws13_12 : iI s13 12 = iI s9 12 := fm_iq Fs13 rfl
  have ws13_89 : iI s13 89 = iI s9 89 := fm_iq Fs13 rfl
  have wos13 : iO s13 = iO s9 := fm_o Fs13 (by decide)
  show WS k 1096 [(5, .int (Int32.ofInt e10)), (0, .ref q1), (1, .ref (A 0)), (2, .ref (A 179)), (3, .ref (A 517)), (4, .int (Int32.ofInt i))] [.int (Int32.ofInt e14)] (Wd A dT s13) (ce + 2) (sl + 12)
  refine z_store X (lv' := [(6, .int (Int32.ofInt e14)), (5, .int (Int32.ofInt e10)), (0, .ref q1), (1, .ref (A 0)), (2, .ref (A 179)), (3, .ref (A 517)), (4, .int (Int32.ofInt i))]) rfl (by decide) (fun _ h => h) (z_goto X (t := 1877) rfl rfl (w_widen (ce' := ce + 29) (sl' := sl + 222) (by first | exact Nat.le_add_right _ _ | exact Nat.add_le_add_left (by decide) _ | omega) (by first | exact Nat.le_add_right _ _ | exact Nat.add_le_add_left (by decide) _ | omega) ?_))
  exact WS_lv (lv := [(0, .ref q1), (1, .ref (A 0)), (2, .ref (A 179)), (3, .ref (A 517)), (4, .int (Int32.ofInt i))]) (List.forall_mem_cons.mpr ⟨(List.Mem.tail _ (List.Mem.tail _ (List.Mem.head _))), (List.forall_mem_cons.mpr ⟨(List.Mem.tail _ (List.Mem.tail _ (List.Mem.tail _ (List.Mem.head _)))), (List.forall_mem_cons.mpr ⟨(List.Mem.tail _ (List.Mem.tail _ (List.Mem.tail _ (List.Mem.tail _ (List.Mem.head _))))), (List.forall_mem_cons.mpr ⟨(List.Mem.tail _ (List.Mem.tail _ (List.Mem.tail _ (List.Mem.tail _ (List.Mem.tail _ (List.Mem.head _)))))), (List.forall_mem_cons.mpr ⟨(List.Mem.tail _ (List.Mem.tail _ (List.Mem.tail _ (List.Mem.tail _ (List.Mem.tail _ (List.Mem.tail _ (List.Mem.head _))))))), (fun q h => absurd h List.not_mem_nil)⟩)⟩)⟩)⟩)⟩) (hk A _ Is13 JRLx_s13 JFEQ_s13 (by first | exact oq_f34933ba ws13_89 ws9_89 p1 b6.1 | omega) (by first | exact oq_d7ce4408 ws13_12 ws9_12 p2 | omega) (by first | exact oq_5bcdc35f ws13_74 ws13_0 ws9_74 ws9_0 p3 | omega) (by first | exact oq_5bcdc35f ws13_90 ws13_9 ws9_90 ws9_9 p4 | omega))
theorem lc_24 (G : GX l s0 D tys a0 dT) (GR : RS0 s0) (SF : SF0 s0) (GT : TXs0 s0) {k : kx_T} (X : AX k 350 dT) (E : kL k = l ∧ kS0 k = s0 ∧ kD k = D ∧ kR k = room_1) {q1 L : Nat} {xs : Nat → Int32} (S : SX k q1 L xs) (hL : L ≤ 3072) (I : Bd s) (jR : RLx s) (jFEQ : FEQ s) (p1 : iI s 89 = 1) (p2 : iI s 12 ≤ 8) (p3 : iI s 0 = iI s 74) (p4 : iI s 9 = iI s 90) {i : Int} (hi : 0 ≤ i ∧ i + 6 ≤ (L : Int)) {ce sl : Nat} (hce : ce + 29 ≤ 601024) (hsl : sl + 222 ≤ 7293034) (hk : ∀ (A : Nat → Nat) (t : PS), Bd t → RLx t → FEQ t → iI t 89 = 1 → iI t 12 ≤ 8 → iI t 0 = iI t 74 → iI t 9 = iI t 90 → WS k 1877 [(0, .ref q1), (1, .ref (A 0)), (2, .ref (A 179)), (3, .ref (A 517)), (4, .int (Int32.ofInt i))] [] (Wd A dT t) (ce + 29) (sl + 222)) : WS k 1101 [(0, .ref q1), (1, .ref (A 0)), (2, .ref (A 179)), (3, .ref (A 517)), (4, .int (Int32.ofInt i))] [] (Wd A dT s) ce sl := by
  have F : Fm [28, 73, 97] [] s s := fm_rf _ _ s
  have b1 := bi_0 I
  have b2 := bi_74 I
  have b3 := bi_9 I
  have b4 := bi_90 I
  have b5 := bi_12 I
  have b6 := bi_89 I
  refine z_aload_n X (x := A 0) rfl (List.Mem.tail _ (List.Mem.head _)) (z_callV X 0 (rm := rmN 159) (As := []) (st := []) rfl rfl (by decide) rfl (by rw [E.1, E.2.1, E.2.2.1]; exact cs_clear G I ) ⟨by rw [E.2.2.2]; exact (show 6 + 1 ≤ 2048 from oq_4d34cb53), by rw [E.2.2.2]; exact (show 8 + (2 + 11) + 100 ≤ 84000 from oq_8731b8c0), by rw [E.2.2.2]; exact (show ce + 0 ≤ 601024 by omega), by rw [E.2.2.2]; exact (show sl + 0 ≤ 7293034 by omega)⟩ (Nat.le_of_ble_eq_true rfl) (fun vv s7 hq => ?_) (fun ee s7 hq => ?_))
  rotate_left
  · obtain ⟨Is7, Fs7, e8, hv, hrs7, hps7⟩ := hq; cases hv
  obtain ⟨Is7, Fs7, e8, hv, hrs7, hps7⟩ := hq
  cases hv
  have Gs7 := fm_tq F Fs7 rfl rfl
  have JRLx_s7 : RLx s7 := RLx_fm Fs7 (by decide) jR
  have JFEQ_s7 : FEQ s7 := FEQ_fm Fs7 (by decide) jFEQ
  have ws7_0 : iI s7 0 = iI s 0 := fm_iq Fs7 rfl
  have ws7_74 : iI s7 74 = iI s 74 := fm_iq Fs7 rfl
  have ws7_9 : iI s7 9 = iI s 9 := fm_iq Fs7 rfl
  have ws7_90 : iI s7 90 = iI s 90 := fm_iq Fs7 rfl
  have ws7_12 : iI s7 12 = iI s 12 := fm_iq Fs7 rfl
  have ws7_89 : iI s7 89 = iI s 89 := fm_iq Fs7 rfl
  have wos7 : iO s7 = iO s := fm_o Fs7 (by decide)
  show WS k 1105 [(0, .ref q1), (1, .ref (A 0)), (2, .ref (A 179)), (3, .ref (A 517)), (4, .int (Int32.ofInt i))] [.int (Int32.ofInt e8)] (Wd A dT s7) ce sl
  refine w_pop X.1 (ax_d X (show cdA 350 1105 = some (.pop, 1, 0, 0, 0) from rfl)) rfl (z_aload_n X (x := A 179) rfl (List.Mem.tail _ (List.Mem.tail _ (List.Mem.head _))) (z_callV X 179 (rm := rmN 259) (As := []) (st := []) rfl rfl (by decide) rfl (by rw [E.1, E.2.1, E.2.2.1]; exact k_clear G Is7 ) ⟨by rw [E.2.2.2]; exact (show 6 + 1 ≤ 2048 from oq_4d34cb53), by rw [E.2.2.2]; exact (show 8 + (2 + 11) + 100 ≤ 84000 from oq_8731b8c0), by rw [E.2.2.2]; exact (show ce + 0 ≤ 601024 by omega), by rw [E.2.2.2]; exact (show sl + 0 ≤ 7293034 by omega)⟩ (Nat.le_of_ble_eq_true rfl) (fun vv s9 hq => ?_) (fun ee s9 hq => ?_)))
  rotate_left
  · obtain ⟨Is9, Fs9, e10, hv, hrs9, hps9⟩ := hq; cases hv
  obtain ⟨Is9, Fs9, e10, hv, hrs9, hps9⟩ := hq
  cases hv
  have Gs9 := fm_tq Gs7 Fs9 rfl rfl
  have JRLx_s9 : RLx s9 := RLx_fm Fs9 (by decide) JRLx_s7
  have JFEQ_s9 : FEQ s9 := FEQ_fm Fs9 (by decide) JFEQ_s7
  have ws9_0 : iI s9 0 = iI s7 0 := fm_iq Fs9 rfl
  have ws9_74 : iI s9 74 = iI s7 74 := fm_iq Fs9 rfl
  have ws9_9 : iI s9 9 = iI s7 9 := fm_iq Fs9 rfl
  have ws9_90 : iI s9 90 = iI s7 90 := fm_iq Fs9 rfl
  have ws9_12 : iI s9 12 = iI s7 12 := fm_iq Fs9 rfl
  have ws9_89 : iI s9 89 = iI s7 89 := fm_iq Fs9 rfl
  have wos9 : iO s9 = iO s7 := fm_o Fs9 (by decide)
  show WS k 1110 [(0, .ref q1), (1, .ref (A 0)), (2, .ref (A 179)), (3, .ref (A 517)), (4, .int (Int32.ofInt i))] [.int (Int32.ofInt e10)] (Wd A dT s9) ce sl
  refine w_pop X.1 (ax_d X (show cdA 350 1110 = some (.pop, 1, 0, 0, 0) from rfl)) rfl (z_goto X (t := 1877) rfl rfl (w_widen (ce' := ce + 29) (sl' := sl + 222) (by first | exact Nat.le_add_right _ _ | exact Nat.add_le_add_left (by decide) _ | omega) (by first | exact Nat.le_add_right _ _ | exact Nat.add_le_add_left (by decide) _ | omega) ?_))
  exact WS_lv (lv := [(0, .ref q1), (1, .ref (A 0)), (2, .ref (A 179)), (3, .ref (A 517)), (4, .int (Int32.ofInt i))]) (List.forall_mem_cons.mpr ⟨(List.Mem.head _), (List.forall_mem_cons.mpr ⟨(List.Mem.tail _ (List.Mem.head _)), (List.forall_mem_cons.mpr ⟨(List.Mem.tail _ (List.Mem.tail _ (List.Mem.head _))), (List.forall_mem_cons.mpr ⟨(List.Mem.tail _ (List.Mem.tail _ (List.Mem.tail _ (List.Mem.head _)))), (List.forall_mem_cons.mpr ⟨(List.Mem.tail _ (List.Mem.tail _ (List.Mem.tail _ (List.Mem.tail _ (List.Mem.head _))))), (fun q h => absurd h List.not_mem_nil)⟩)⟩)⟩)⟩)⟩) (hk A _ Is9 JRLx_s9 JFEQ_s9 (by first | exact oq_f34933ba ws9_89 ws7_89 p1 b6.1 | omega) (by first | exact oq_d7ce4408 ws9_12 ws7_12 p2 | omega) (by first | exact oq_5bcdc35f ws9_74 ws9_0 ws7_74 ws7_0 p3 | omega) (by first | exact oq_5bcdc35f ws9_90 ws9_9 ws7_90 ws7_9 p4 | omega))
theorem lc_25 (G : GX l s0 D tys a0 dT) (GR : RS0 s0) (SF : SF0 s0) (GT : TXs0 s0) {k : kx_T} (X : AX k 350 dT) (E : kL k = l ∧ kS0 k = s0 ∧ kD k = D ∧ kR k = room_1) {q1 L : Nat} {xs : Nat → Int32} (S : SX k q1 L xs) (hL : L ≤ 3072) (I : Bd s) (jR : RLx s) (jFEQ : FEQ s) (p1 : iI s 89 = 1) (p2 : iI s 12 ≤ 8) (p3 : iI s 0 = iI s 74) (p4 : iI s 9 = iI s 90) {i : Int} (hi : 0 ≤ i ∧ i + 6 ≤ (L : Int)) {ce sl : Nat} (hce : ce + 29 ≤ 601024) (hsl : sl + 222 ≤ 7293034) (hk : ∀ (A : Nat → Nat) (t : PS), Bd t → RLx t → FEQ t → iI t 89 = 1 → iI t 12 ≤ 8 → iI t 0 = iI t 74 → iI t 9 = iI t 90 → WS k 1877 [(0, .ref q1), (1, .ref (A 0)), (2, .ref (A 179)), (3, .ref (A 517)), (4, .int (Int32.ofInt i))] [] (Wd A dT t) (ce + 29) (sl + 222)) : WS k 1114 [(0, .ref q1), (1, .ref (A 0)), (2, .ref (A 179)), (3, .ref (A 517)), (4, .int (Int32.ofInt i))] [] (Wd A dT s) ce sl := by
  have F : Fm [32, 73, 99] [46, 1460, 237] s s := fm_rf _ _ s
  have b1 := bi_0 I
  have b2 := bi_74 I
  have b3 := bi_9 I
  have b4 := bi_90 I
  have b5 := bi_12 I
  have b6 := bi_89 I
  refine z_aload_n X (x := A 0) rfl (List.Mem.tail _ (List.Mem.head _)) (z_aload_n X (x := q1) rfl (List.Mem.head _) (z_load X (x := i) rfl (List.Mem.tail _ (List.Mem.tail _ (List.Mem.tail _ (List.Mem.tail _ (List.Mem.head _))))) (z_const X rfl (z_add X rfl (z_sld X S hL rfl (show 0 ≤ (i + 1) ∧ (i + 1) < (L : Int) by first | exact sx_in hi (by decide) | omega) ?_)))))
  have sr7 : rng (sc xs (i + 1)) := sc_rng
  refine z_aload_n X (x := A 517) rfl (List.Mem.tail _ (List.Mem.tail _ (List.Mem.tail _ (List.Mem.head _)))) (z_callL X (rm := rmN 334) (As := [.ref (A 0), .int (Int32.ofInt (sc xs (i + 1))), .ref (A 517)]) (st := []) rfl (by decide) rfl (by rw [E.1, E.2.1, E.2.2.1]; exact lw_configure G I (by omega)) ⟨by rw [E.2.2.2]; exact (show 8 + 1 ≤ 2048 by decide), by rw [E.2.2.2]; exact (show 8 + (4 + 11) + 144 ≤ 84000 by decide), by rw [E.2.2.2]; exact (show ce + 1 ≤ 601024 by first | exact rmo_1 hce (by decide) | exact rmo_2 hce (by decide) | omega), by rw [E.2.2.2]; exact (show sl + 6 ≤ 7293034 by first | exact rmo_1 hsl (by decide) | exact rmo_2 hsl (by decide) | omega)⟩ (Nat.le_of_ble_eq_true rfl) (fun vv A s8 hA2 hq => ?_) (fun ee A s8 hA2 hq => ?_))
  rotate_left
  · obtain ⟨Is8, Fs8, e9, hv, hrs8, hps8⟩ := hq; cases hv
  obtain ⟨Is8, Fs8, e9, hv, hrs8, hps8⟩ := hq
  cases hv
  rw [← hA2 0 (by decide)]
  rw [← hA2 179 (by decide)]
  rw [← hA2 517 (by decide)]
  have Gs8 := fm_tq F Fs8 rfl rfl
  have JRLx_s8 : RLx s8 := RLx_fm Fs8 (by decide) jR
  have JFEQ_s8 : FEQ s8 := FEQ_fm Fs8 (by decide) jFEQ
  have ws8_0 : iI s8 0 = iI s 0 := fm_iq Fs8 rfl
  have ws8_74 : iI s8 74 = iI s 74 := fm_iq Fs8 rfl
  have ws8_9 : iI s8 9 = iI s 9 := fm_iq Fs8 rfl
  have ws8_90 : iI s8 90 = iI s 90 := fm_iq Fs8 rfl
  have ws8_12 : iI s8 12 = iI s 12 := fm_iq Fs8 rfl
  have ws8_89 : iI s8 89 = iI s 89 := fm_iq Fs8 rfl
  show WS k 1125 [(0, .ref q1), (1, .ref (A 0)), (2, .ref (A 179)), (3, .ref (A 517)), (4, .int (Int32.ofInt i))] [.int (Int32.ofInt e9)] (Wd A dT s8) (ce + 1) (sl + 6)
  refine z_store X (lv' := [(5, .int (Int32.ofInt e9)), (0, .ref q1), (1, .ref (A 0)), (2, .ref (A 179)), (3, .ref (A 517)), (4, .int (Int32.ofInt i))]) rfl (by decide) (fun _ h => h) (z_aload_n X (x := A 179) rfl (List.Mem.tail _ (List.Mem.tail _ (List.Mem.tail _ (List.Mem.head _)))) (z_aload_n X (x := q1) rfl (List.Mem.tail _ (List.Mem.head _)) (z_load X (x := i) rfl (List.Mem.tail _ (List.Mem.tail _ (List.Mem.tail _ (List.Mem.tail _ (List.Mem.tail _ (List.Mem.head _)))))) (z_const X rfl (z_add X rfl (z_sld X S hL rfl (show 0 ≤ (i + 1) ∧ (i + 1) < (L : Int) by first | exact sx_in hi (by decide) | omega) ?_))))))
  have sr10 : rng (sc xs (i + 1)) := sc_rng
  refine z_callV X 179 (rm := rmN 264) (As := [.int (Int32.ofInt (sc xs (i + 1)))]) (st := []) rfl rfl (by decide) rfl (by rw [E.1, E.2.1, E.2.2.1]; exact k_configure G Is8 (by first | exact ⟨sr10.1, sr10.2⟩ | omega)) ⟨by rw [E.2.2.2]; exact (show 7 + 1 ≤ 2048 from oq_4e6106eb), by rw [E.2.2.2]; exact (show 8 + (2 + 11) + 122 ≤ 84000 from oq_f09e007f), by rw [E.2.2.2]; exact (show (ce + 1) + 0 ≤ 601024 by omega), by rw [E.2.2.2]; exact (show (sl + 6) + 0 ≤ 7293034 by omega)⟩ (Nat.le_of_ble_eq_true rfl) (fun vv s11 hq => ?_) (fun ee s11 hq => ?_)
  rotate_left
  · obtain ⟨Is11, Fs11, e12, hv, hrs11, hps11⟩ := hq; cases hv
  obtain ⟨Is11, Fs11, e12, hv, hrs11, hps11⟩ := hq
  cases hv
  have Gs11 := fm_tq Gs8 Fs11 rfl rfl
  have JRLx_s11 : RLx s11 := RLx_fm Fs11 (by decide) JRLx_s8
  have JFEQ_s11 : FEQ s11 := FEQ_fm Fs11 (by decide) JFEQ_s8
  have ws11_0 : iI s11 0 = iI s8 0 := fm_iq Fs11 rfl
  have ws11_74 : iI s11 74 = iI s8 74 := fm_iq Fs11 rfl
  have ws11_9 : iI s11 9 = iI s8 9 := fm_iq Fs11 rfl
  have ws11_90 : iI s11 90 = iI s8 90 := fm_iq Fs11 rfl
  have ws11_12 : iI s11 12 = iI s8 12 := fm_iq Fs11 rfl
  have ws11_89 : iI s11 89 = iI s8 89 := fm_iq Fs11 rfl
  have wos11 : iO s11 = iO s8 := fm_o Fs11 (by decide)
  show WS k 1137 [(5, .int (Int32.ofInt e9)), (0, .ref q1), (1, .ref (A 0)), (2, .ref (A 179)), (3, .ref (A 517)), (4, .int (Int32.ofInt i))] [.int (Int32.ofInt e12)] (Wd A dT s11) (ce + 1) (sl + 6)
  refine z_store X (lv' := [(6, .int (Int32.ofInt e12)), (5, .int (Int32.ofInt e9)), (0, .ref q1), (1, .ref (A 0)), (2, .ref (A 179)), (3, .ref (A 517)), (4, .int (Int32.ofInt i))]) rfl (by decide) (fun _ h => h) (z_goto X (t := 1877) rfl rfl (w_widen (ce' := ce + 29) (sl' := sl + 222) (by first | exact Nat.le_add_right _ _ | exact Nat.add_le_add_left (by decide) _ | omega) (by first | exact Nat.le_add_right _ _ | exact Nat.add_le_add_left (by decide) _ | omega) ?_))
  exact WS_lv (lv := [(0, .ref q1), (1, .ref (A 0)), (2, .ref (A 179)), (3, .ref (A 517)), (4, .int (Int32.ofInt i))]) (List.forall_mem_cons.mpr ⟨(List.Mem.tail _ (List.Mem.tail _ (List.Mem.head _))), (List.forall_mem_cons.mpr ⟨(List.Mem.tail _ (List.Mem.tail _ (List.Mem.tail _ (List.Mem.head _)))), (List.forall_mem_cons.mpr ⟨(List.Mem.tail _ (List.Mem.tail _ (List.Mem.tail _ (List.Mem.tail _ (List.Mem.head _))))), (List.forall_mem_cons.mpr ⟨(List.Mem.tail _ (List.Mem.tail _ (List.Mem.tail _ (List.Mem.tail _ (List.Mem.tail _ (List.Mem.head _)))))), (List.forall_mem_cons.mpr ⟨(List.Mem.tail _ (List.Mem.tail _ (List.Mem.tail _ (List.Mem.tail _ (List.Mem.tail _ (List.Mem.tail _ (List.Mem.head _))))))), (fun q h => absurd h List.not_mem_nil)⟩)⟩)⟩)⟩)⟩) (hk A _ Is11 JRLx_s11 JFEQ_s11 (by first | exact oq_f34933ba ws11_89 ws8_89 p1 b6.1 | omega) (by first | exact oq_d7ce4408 ws11_12 ws8_12 p2 | omega) (by first | exact oq_5bcdc35f ws11_74 ws11_0 ws8_74 ws8_0 p3 | omega) (by first | exact oq_5bcdc35f ws11_90 ws11_9 ws8_90 ws8_9 p4 | omega))
theorem lc_26 (G : GX l s0 D tys a0 dT) (GR : RS0 s0) (SF : SF0 s0) (GT : TXs0 s0) {k : kx_T} (X : AX k 350 dT) (E : kL k = l ∧ kS0 k = s0 ∧ kD k = D ∧ kR k = room_1) {q1 L : Nat} {xs : Nat → Int32} (S : SX k q1 L xs) (hL : L ≤ 3072) (I : Bd s) (jR : RLx s) (jFEQ : FEQ s) (p1 : iI s 89 = 1) (p2 : iI s 12 ≤ 8) (p3 : iI s 0 = iI s 74) (p4 : iI s 9 = iI s 90) {i : Int} (hi : 0 ≤ i ∧ i + 6 ≤ (L : Int)) {ce sl : Nat} (hce : ce + 29 ≤ 601024) (hsl : sl + 222 ≤ 7293034) (hk : ∀ (A : Nat → Nat) (t : PS), Bd t → RLx t → FEQ t → iI t 89 = 1 → iI t 12 ≤ 8 → iI t 0 = iI t 74 → iI t 9 = iI t 90 → WS k 1877 [(0, .ref q1), (1, .ref (A 0)), (2, .ref (A 179)), (3, .ref (A 517)), (4, .int (Int32.ofInt i))] [] (Wd A dT t) (ce + 29) (sl + 222)) : WS k 1142 [(0, .ref q1), (1, .ref (A 0)), (2, .ref (A 179)), (3, .ref (A 517)), (4, .int (Int32.ofInt i))] [] (Wd A dT s) ce sl := by
  have F : Fm [22, 23, 24, 73, 89, 77, 75, 78, 79, 80, 81] [33, 26, 27, 28, 29, 30, 31, 32, 20, 48, 47, 1460, 202, 204, 205, 206, 207, 208, 209, 210, 211, 212, 213, 214, 215, 216, 217, 218, 219, 220, 221, 222, 223, 224, 225, 226, 227, 203, 161, 230] s s := fm_rf _ _ s
  have b1 := bi_0 I
  have b2 := bi_74 I
  have b3 := bi_9 I
  have b4 := bi_90 I
  have b5 := bi_12 I
  have b6 := bi_89 I
  refine z_aload_n X (x := A 0) rfl (List.Mem.tail _ (List.Mem.head _)) (z_aload_n X (x := q1) rfl (List.Mem.head _) (z_load X (x := i) rfl (List.Mem.tail _ (List.Mem.tail _ (List.Mem.tail _ (List.Mem.tail _ (List.Mem.head _))))) (z_const X rfl (z_add X rfl (z_sld X S hL rfl (show 0 ≤ (i + 1) ∧ (i + 1) < (L : Int) by first | exact sx_in hi (by decide) | omega) ?_)))))
  have sr7 : rng (sc xs (i + 1)) := sc_rng
  refine z_aload_n X (x := q1) rfl (List.Mem.head _) (z_load X (x := i) rfl (List.Mem.tail _ (List.Mem.tail _ (List.Mem.tail _ (List.Mem.tail _ (List.Mem.head _))))) (z_const X rfl (z_add X rfl (z_sld X S hL rfl (show 0 ≤ (i + 2) ∧ (i + 2) < (L : Int) by first | exact sx_in hi (by decide) | omega) ?_))))
  have sr8 : rng (sc xs (i + 2)) := sc_rng
  refine z_aload_n X (x := A 517) rfl (List.Mem.tail _ (List.Mem.tail _ (List.Mem.tail _ (List.Mem.head _)))) (z_callL X (rm := rmN 335) (As := [.ref (A 0), .int (Int32.ofInt (sc xs (i + 1))), .int (Int32.ofInt (sc xs (i + 2))), .ref (A 517)]) (st := []) rfl (by decide) rfl (by rw [E.1, E.2.1, E.2.2.1]; exact lw_pairs G I (by omega) (by omega) (by omega)) ⟨by rw [E.2.2.2]; exact (show 12 + 1 ≤ 2048 by decide), by rw [E.2.2.2]; exact (show 8 + (5 + 11) + 248 ≤ 84000 by decide), by rw [E.2.2.2]; exact (show ce + 2 ≤ 601024 by first | exact rmo_1 hce (by decide) | exact rmo_2 hce (by decide) | omega), by rw [E.2.2.2]; exact (show sl + 12 ≤ 7293034 by first | exact rmo_1 hsl (by decide) | exact rmo_2 hsl (by decide) | omega)⟩ (Nat.le_of_ble_eq_true rfl) (fun vv A s9 hA2 hq => ?_) (fun ee A s9 hA2 hq => ?_))
  rotate_left
  · obtain ⟨Is9, Fs9, e10, hv, hrs9, hps9⟩ := hq; cases hv
  obtain ⟨Is9, Fs9, e10, hv, hrs9, hps9⟩ := hq
  cases hv
  rw [← hA2 0 (by decide)]
  rw [← hA2 179 (by decide)]
  rw [← hA2 517 (by decide)]
  have Gs9 := fm_tq F Fs9 rfl rfl
  have JRLx_s9 : RLx s9 := RLx_fm Fs9 (by decide) jR
  have JFEQ_s9 : FEQ s9 := FEQ_fm Fs9 (by decide) jFEQ
  have ws9_0 : iI s9 0 = iI s 0 := fm_iq Fs9 rfl
  have ws9_74 : iI s9 74 = iI s 74 := fm_iq Fs9 rfl
  have ws9_9 : iI s9 9 = iI s 9 := fm_iq Fs9 rfl
  have ws9_90 : iI s9 90 = iI s 90 := fm_iq Fs9 rfl
  have ws9_12 : iI s9 12 = iI s 12 := fm_iq Fs9 rfl
  have ws9_89 : iI s9 89 = iI s 89 := fm_iq Fs9 rfl
  show WS k 1159 [(0, .ref q1), (1, .ref (A 0)), (2, .ref (A 179)), (3, .ref (A 517)), (4, .int (Int32.ofInt i))] [.int (Int32.ofInt e10)] (Wd A dT s9) (ce + 2) (sl + 12)
  refine z_store X (lv' := [(5, .int (Int32.ofInt e10)), (0, .ref q1), (1, .ref (A 0)), (2, .ref (A 179)), (3, .ref (A 517)), (4, .int (Int32.ofInt i))]) rfl (by decide) (fun _ h => h) (z_aload_n X (x := A 179) rfl (List.Mem.tail _ (List.Mem.tail _ (List.Mem.tail _ (List.Mem.head _)))) (z_aload_n X (x := q1) rfl (List.Mem.tail _ (List.Mem.head _)) (z_load X (x := i) rfl (List.Mem.tail _ (List.Mem.tail _ (List.Mem.tail _ (List.Mem.tail _ (List.Mem.tail _ (List.Mem.head _)))))) (z_const X rfl (z_add X rfl (z_sld X S hL rfl (show 0 ≤ (i + 1) ∧ (i + 1) < (L : Int) by first | exact sx_in hi (by decide) | omega) ?_))))))
  have sr11 : rng (sc xs (i + 1)) := sc_rng
  refine z_aload_n X (x := q1) rfl (List.Mem.tail _ (List.Mem.head _)) (z_load X (x := i) rfl (List.Mem.tail _ (List.Mem.tail _ (List.Mem.tail _ (List.Mem.tail _ (List.Mem.tail _ (List.Mem.head _)))))) (z_const X rfl (z_add X rfl (z_sld X S hL rfl (show 0 ≤ (i + 2) ∧ (i + 2) < (L : Int) by first | exact sx_in hi (by decide) | omega) ?_))))
  have sr12 : rng (sc xs (i + 2)) := sc_rng
  refine z_callV X 179 (rm := rmN 267) (As := [.int (Int32.ofInt (sc xs (i + 1))), .int (Int32.ofInt (sc xs (i + 2)))]) (st := []) rfl rfl (by decide) rfl (by rw [E.1, E.2.1, E.2.2.1]; exact k_pairs G Is9 JRLx_s9 (by first | exact ⟨sr11.1, sr11.2⟩ | omega) (by first | exact ⟨sr12.1, sr12.2⟩ | omega)) ⟨by rw [E.2.2.2]; exact (show 62 + 1 ≤ 2048 from oq_03e28196), by rw [E.2.2.2]; exact (show 8 + (3 + 11) + 2686 ≤ 84000 from oq_1f8b0a4c), by rw [E.2.2.2]; exact (show (ce + 2) + 0 ≤ 601024 by omega), by rw [E.2.2.2]; exact (show (sl + 12) + 0 ≤ 7293034 by omega)⟩ (Nat.le_of_ble_eq_true rfl) (fun vv s13 hq => ?_) (fun ee s13 hq => ?_)
  rotate_left
  · obtain ⟨Is13, Fs13, JRLx_s13, e14, hv, hrs13, hps13⟩ := hq; cases hv
  obtain ⟨Is13, Fs13, JRLx_s13, e14, hv, hrs13, hps13⟩ := hq
  cases hv
  have Gs13 := fm_tq Gs9 Fs13 rfl rfl
  have JRLx_s13 : RLx s13 := RLx_fm Fs13 (by decide) JRLx_s9
  have JFEQ_s13 : FEQ s13 := FEQ_fm Fs13 (by decide) JFEQ_s9
  have ws13_0 : iI s13 0 = iI s9 0 := fm_iq Fs13 rfl
  have ws13_74 : iI s13 74 = iI s9 74 := fm_iq Fs13 rfl
  have ws13_9 : iI s13 9 = iI s9 9 := fm_iq Fs13 rfl
  have ws13_90 : iI s13 90 = iI s9 90 := fm_iq Fs13 rfl
  have ws13_12 : iI s13 12 = iI s9 12 := fm_iq Fs13 rfl
  have b15 := bi_89 Is13
  have wos13 : iO s13 = iO s9 := fm_o Fs13 (by decide)
  replace hps13 := hps13 (by clear hps13; omega)
  show WS k 1177 [(5, .int (Int32.ofInt e10)), (0, .ref q1), (1, .ref (A 0)), (2, .ref (A 179)), (3, .ref (A 517)), (4, .int (Int32.ofInt i))] [.int (Int32.ofInt e14)] (Wd A dT s13) (ce + 2) (sl + 12)
  refine z_store X (lv' := [(6, .int (Int32.ofInt e14)), (5, .int (Int32.ofInt e10)), (0, .ref q1), (1, .ref (A 0)), (2, .ref (A 179)), (3, .ref (A 517)), (4, .int (Int32.ofInt i))]) rfl (by decide) (fun _ h => h) (z_goto X (t := 1877) rfl rfl (w_widen (ce' := ce + 29) (sl' := sl + 222) (by first | exact Nat.le_add_right _ _ | exact Nat.add_le_add_left (by decide) _ | omega) (by first | exact Nat.le_add_right _ _ | exact Nat.add_le_add_left (by decide) _ | omega) ?_))
  exact WS_lv (lv := [(0, .ref q1), (1, .ref (A 0)), (2, .ref (A 179)), (3, .ref (A 517)), (4, .int (Int32.ofInt i))]) (List.forall_mem_cons.mpr ⟨(List.Mem.tail _ (List.Mem.tail _ (List.Mem.head _))), (List.forall_mem_cons.mpr ⟨(List.Mem.tail _ (List.Mem.tail _ (List.Mem.tail _ (List.Mem.head _)))), (List.forall_mem_cons.mpr ⟨(List.Mem.tail _ (List.Mem.tail _ (List.Mem.tail _ (List.Mem.tail _ (List.Mem.head _))))), (List.forall_mem_cons.mpr ⟨(List.Mem.tail _ (List.Mem.tail _ (List.Mem.tail _ (List.Mem.tail _ (List.Mem.tail _ (List.Mem.head _)))))), (List.forall_mem_cons.mpr ⟨(List.Mem.tail _ (List.Mem.tail _ (List.Mem.tail _ (List.Mem.tail _ (List.Mem.tail _ (List.Mem.tail _ (List.Mem.head _))))))), (fun q h => absurd h List.not_mem_nil)⟩)⟩)⟩)⟩)⟩) (hk A _ Is13 JRLx_s13 JFEQ_s13 (by first | exact oq_e8f78630 b15.1 hps13 ws9_89 b6.1 p1 | omega) (by first | exact oq_d7ce4408 ws13_12 ws9_12 p2 | omega) (by first | exact oq_5bcdc35f ws13_74 ws13_0 ws9_74 ws9_0 p3 | omega) (by first | exact oq_5bcdc35f ws13_90 ws13_9 ws9_90 ws9_9 p4 | omega))
theorem lc_27 (G : GX l s0 D tys a0 dT) (GR : RS0 s0) (SF : SF0 s0) (GT : TXs0 s0) {k : kx_T} (X : AX k 350 dT) (E : kL k = l ∧ kS0 k = s0 ∧ kD k = D ∧ kR k = room_1) {q1 L : Nat} {xs : Nat → Int32} (S : SX k q1 L xs) (hL : L ≤ 3072) (I : Bd s) (jR : RLx s) (jFEQ : FEQ s) (p1 : iI s 89 = 1) (p2 : iI s 12 ≤ 8) (p3 : iI s 0 = iI s 74) (p4 : iI s 9 = iI s 90) {i : Int} (hi : 0 ≤ i ∧ i + 6 ≤ (L : Int)) {ce sl : Nat} (hce : ce + 29 ≤ 601024) (hsl : sl + 222 ≤ 7293034) (hk : ∀ (A : Nat → Nat) (t : PS), Bd t → RLx t → FEQ t → iI t 89 = 1 → iI t 12 ≤ 8 → iI t 0 = iI t 74 → iI t 9 = iI t 90 → WS k 1877 [(0, .ref q1), (1, .ref (A 0)), (2, .ref (A 179)), (3, .ref (A 517)), (4, .int (Int32.ofInt i))] [] (Wd A dT t) (ce + 29) (sl + 222)) : WS k 1182 [(0, .ref q1), (1, .ref (A 0)), (2, .ref (A 179)), (3, .ref (A 517)), (4, .int (Int32.ofInt i))] [] (Wd A dT s) ce sl := by
  have F : Fm [33, 73, 96] [1460] s s := fm_rf _ _ s
  have b1 := bi_0 I
  have b2 := bi_74 I
  have b3 := bi_9 I
  have b4 := bi_90 I
  have b5 := bi_12 I
  have b6 := bi_89 I
  refine z_aload_n X (x := A 0) rfl (List.Mem.tail _ (List.Mem.head _)) (z_aload_n X (x := q1) rfl (List.Mem.head _) (z_load X (x := i) rfl (List.Mem.tail _ (List.Mem.tail _ (List.Mem.tail _ (List.Mem.tail _ (List.Mem.head _))))) (z_const X rfl (z_add X rfl (z_sld X S hL rfl (show 0 ≤ (i + 1) ∧ (i + 1) < (L : Int) by first | exact sx_in hi (by decide) | omega) ?_)))))
  have sr7 : rng (sc xs (i + 1)) := sc_rng
  refine z_aload_n X (x := A 517) rfl (List.Mem.tail _ (List.Mem.tail _ (List.Mem.tail _ (List.Mem.head _)))) (z_callL X (rm := rmN 336) (As := [.ref (A 0), .int (Int32.ofInt (sc xs (i + 1))), .ref (A 517)]) (st := []) rfl (by decide) rfl (by rw [E.1, E.2.1, E.2.2.1]; exact lw_busy G I (by omega)) ⟨by rw [E.2.2.2]; exact (show 8 + 1 ≤ 2048 by decide), by rw [E.2.2.2]; exact (show 8 + (4 + 11) + 145 ≤ 84000 by decide), by rw [E.2.2.2]; exact (show ce + 1 ≤ 601024 by first | exact rmo_1 hce (by decide) | exact rmo_2 hce (by decide) | omega), by rw [E.2.2.2]; exact (show sl + 6 ≤ 7293034 by first | exact rmo_1 hsl (by decide) | exact rmo_2 hsl (by decide) | omega)⟩ (Nat.le_of_ble_eq_true rfl) (fun vv A s8 hA2 hq => ?_) (fun ee A s8 hA2 hq => ?_))
  rotate_left
  · obtain ⟨Is8, Fs8, e9, hv, hrs8, hps8⟩ := hq; cases hv
  obtain ⟨Is8, Fs8, e9, hv, hrs8, hps8⟩ := hq
  cases hv
  rw [← hA2 0 (by decide)]
  rw [← hA2 179 (by decide)]
  rw [← hA2 517 (by decide)]
  have Gs8 := fm_tq F Fs8 rfl rfl
  have JRLx_s8 : RLx s8 := RLx_fm Fs8 (by decide) jR
  have JFEQ_s8 : FEQ s8 := FEQ_fm Fs8 (by decide) jFEQ
  have ws8_0 : iI s8 0 = iI s 0 := fm_iq Fs8 rfl
  have ws8_74 : iI s8 74 = iI s 74 := fm_iq Fs8 rfl
  have ws8_9 : iI s8 9 = iI s 9 := fm_iq Fs8 rfl
  have ws8_90 : iI s8 90 = iI s 90 := fm_iq Fs8 rfl
  have ws8_12 : iI s8 12 = iI s 12 := fm_iq Fs8 rfl
  have ws8_89 : iI s8 89 = iI s 89 := fm_iq Fs8 rfl
  show WS k 1193 [(0, .ref q1), (1, .ref (A 0)), (2, .ref (A 179)), (3, .ref (A 517)), (4, .int (Int32.ofInt i))] [.int (Int32.ofInt e9)] (Wd A dT s8) (ce + 1) (sl + 6)
  refine z_store X (lv' := [(5, .int (Int32.ofInt e9)), (0, .ref q1), (1, .ref (A 0)), (2, .ref (A 179)), (3, .ref (A 517)), (4, .int (Int32.ofInt i))]) rfl (by decide) (fun _ h => h) (z_aload_n X (x := A 179) rfl (List.Mem.tail _ (List.Mem.tail _ (List.Mem.tail _ (List.Mem.head _)))) (z_aload_n X (x := q1) rfl (List.Mem.tail _ (List.Mem.head _)) (z_load X (x := i) rfl (List.Mem.tail _ (List.Mem.tail _ (List.Mem.tail _ (List.Mem.tail _ (List.Mem.tail _ (List.Mem.head _)))))) (z_const X rfl (z_add X rfl (z_sld X S hL rfl (show 0 ≤ (i + 1) ∧ (i + 1) < (L : Int) by first | exact sx_in hi (by decide) | omega) ?_))))))
  have sr10 : rng (sc xs (i + 1)) := sc_rng
  refine z_callV X 179 (rm := rmN 268) (As := [.int (Int32.ofInt (sc xs (i + 1)))]) (st := []) rfl rfl (by decide) rfl (by rw [E.1, E.2.1, E.2.2.1]; exact k_busy G Is8 (by first | exact ⟨sr10.1, sr10.2⟩ | omega)) ⟨by rw [E.2.2.2]; exact (show 7 + 1 ≤ 2048 from oq_4e6106eb), by rw [E.2.2.2]; exact (show 8 + (3 + 11) + 122 ≤ 84000 from oq_38d194b9), by rw [E.2.2.2]; exact (show (ce + 1) + 0 ≤ 601024 by omega), by rw [E.2.2.2]; exact (show (sl + 6) + 0 ≤ 7293034 by omega)⟩ (Nat.le_of_ble_eq_true rfl) (fun vv s11 hq => ?_) (fun ee s11 hq => ?_)
  rotate_left
  · obtain ⟨Is11, Fs11, e12, hv, hrs11, hps11⟩ := hq; cases hv
  obtain ⟨Is11, Fs11, e12, hv, hrs11, hps11⟩ := hq
  cases hv
  have Gs11 := fm_tq Gs8 Fs11 rfl rfl
  have JRLx_s11 : RLx s11 := RLx_fm Fs11 (by decide) JRLx_s8
  have JFEQ_s11 : FEQ s11 := FEQ_fm Fs11 (by decide) JFEQ_s8
  have ws11_0 : iI s11 0 = iI s8 0 := fm_iq Fs11 rfl
  have ws11_74 : iI s11 74 = iI s8 74 := fm_iq Fs11 rfl
  have ws11_9 : iI s11 9 = iI s8 9 := fm_iq Fs11 rfl
  have ws11_90 : iI s11 90 = iI s8 90 := fm_iq Fs11 rfl
  have ws11_12 : iI s11 12 = iI s8 12 := fm_iq Fs11 rfl
  have ws11_89 : iI s11 89 = iI s8 89 := fm_iq Fs11 rfl
  have wos11 : iO s11 = iO s8 := fm_o Fs11 (by decide)
  show WS k 1205 [(5, .int (Int32.ofInt e9)), (0, .ref q1), (1, .ref (A 0)), (2, .ref (A 179)), (3, .ref (A 517)), (4, .int (Int32.ofInt i))] [.int (Int32.ofInt e12)] (Wd A dT s11) (ce + 1) (sl + 6)
  refine z_store X (lv' := [(6, .int (Int32.ofInt e12)), (5, .int (Int32.ofInt e9)), (0, .ref q1), (1, .ref (A 0)), (2, .ref (A 179)), (3, .ref (A 517)), (4, .int (Int32.ofInt i))]) rfl (by decide) (fun _ h => h) (z_goto X (t := 1877) rfl rfl (w_widen (ce' := ce + 29) (sl' := sl + 222) (by first | exact Nat.le_add_right _ _ | exact Nat.add_le_add_left (by decide) _ | omega) (by first | exact Nat.le_add_right _ _ | exact Nat.add_le_add_left (by decide) _ | omega) ?_))
  exact WS_lv (lv := [(0, .ref q1), (1, .ref (A 0)), (2, .ref (A 179)), (3, .ref (A 517)), (4, .int (Int32.ofInt i))]) (List.forall_mem_cons.mpr ⟨(List.Mem.tail _ (List.Mem.tail _ (List.Mem.head _))), (List.forall_mem_cons.mpr ⟨(List.Mem.tail _ (List.Mem.tail _ (List.Mem.tail _ (List.Mem.head _)))), (List.forall_mem_cons.mpr ⟨(List.Mem.tail _ (List.Mem.tail _ (List.Mem.tail _ (List.Mem.tail _ (List.Mem.head _))))), (List.forall_mem_cons.mpr ⟨(List.Mem.tail _ (List.Mem.tail _ (List.Mem.tail _ (List.Mem.tail _ (List.Mem.tail _ (List.Mem.head _)))))), (List.forall_mem_cons.mpr ⟨(List.Mem.tail _ (List.Mem.tail _ (List.Mem.tail _ (List.Mem.tail _ (List.Mem.tail _ (List.Mem.tail _ (List.Mem.head _))))))), (fun q h => absurd h List.not_mem_nil)⟩)⟩)⟩)⟩)⟩) (hk A _ Is11 JRLx_s11 JFEQ_s11 (by first | exact oq_f34933ba ws11_89 ws8_89 p1 b6.1 | omega) (by first | exact oq_d7ce4408 ws11_12 ws8_12 p2 | omega) (by first | exact oq_5bcdc35f ws11_74 ws11_0 ws8_74 ws8_0 p3 | omega) (by first | exact oq_5bcdc35f ws11_90 ws11_9 ws8_90 ws8_9 p4 | omega))
theorem lc_28 (G : GX l s0 D tys a0 dT) (GR : RS0 s0) (SF : SF0 s0) (GT : TXs0 s0) {k : kx_T} (X : AX k 350 dT) (E : kL k = l ∧ kS0 k = s0 ∧ kD k = D ∧ kR k = room_1) {q1 L : Nat} {xs : Nat → Int32} (S : SX k q1 L xs) (hL : L ≤ 3072) (I : Bd s) (jR : RLx s) (jFEQ : FEQ s) (p1 : iI s 89 = 1) (p2 : iI s 12 ≤ 8) (p3 : iI s 0 = iI s 74) (p4 : iI s 9 = iI s 90) {i : Int} (hi : 0 ≤ i ∧ i + 6 ≤ (L : Int)) {ce sl : Nat} (hce : ce + 29 ≤ 601024) (hsl : sl + 222 ≤ 7293034) (hk : ∀ (A : Nat → Nat) (t : PS), Bd t → RLx t → FEQ t → iI t 89 = 1 → iI t 12 ≤ 8 → iI t 0 = iI t 74 → iI t 9 = iI t 90 → WS k 1877 [(0, .ref q1), (1, .ref (A 0)), (2, .ref (A 179)), (3, .ref (A 517)), (4, .int (Int32.ofInt i))] [] (Wd A dT t) (ce + 29) (sl + 222)) : WS k 1210 [(0, .ref q1), (1, .ref (A 0)), (2, .ref (A 179)), (3, .ref (A 517)), (4, .int (Int32.ofInt i))] [] (Wd A dT s) ce sl := by
  have F : Fm [22, 23, 24, 34, 35, 73, 77, 75, 78, 79, 80, 81, 89] [33, 26, 27, 28, 29, 30, 31, 32, 20, 48, 47, 49, 50, 51, 1460, 161, 230, 202, 204, 205, 206, 207, 208, 209, 210, 211, 212, 213, 214, 215, 216, 217, 218, 219, 220, 221, 222, 223, 224, 225, 226, 227, 203, 395, 396, 245, 246, 247, 248, 249, 250, 251, 252, 253, 254, 255, 256, 257, 258, 259, 260, 261, 262, 263, 264, 265, 266, 267, 268, 269, 270, 271, 272, 273, 274, 275, 276, 277, 278, 279, 280, 281, 282, 283, 284, 285, 286, 287, 288, 289, 290, 291, 292, 293, 294, 295, 296, 297, 298, 299, 300, 301, 302, 303, 304, 305, 306, 307, 308, 309, 310, 311, 312, 313, 314, 315, 316, 317, 318, 319, 320, 321, 322, 323, 324, 325, 326, 327, 328, 329, 330, 331, 332, 333, 334, 335, 336, 337, 338, 339, 340, 341, 342, 343, 344, 345, 346, 347, 348, 349, 350, 351, 352, 353, 354, 355, 356, 357, 358, 359, 360, 361, 362, 363, 364, 365, 366, 367, 368, 369, 370, 371, 372, 373, 374, 375, 376, 377, 378, 379, 380, 381, 382, 383, 384, 385, 386, 387, 388, 389, 390, 391, 392, 393, 394] s s := fm_rf _ _ s
  have b1 := bi_0 I
  have b2 := bi_74 I
  have b3 := bi_9 I
  have b4 := bi_90 I
  have b5 := bi_12 I
  have b6 := bi_89 I
  refine z_aload_n X (x := A 0) rfl (List.Mem.tail _ (List.Mem.head _)) (z_aload_n X (x := q1) rfl (List.Mem.head _) (z_load X (x := i) rfl (List.Mem.tail _ (List.Mem.tail _ (List.Mem.tail _ (List.Mem.tail _ (List.Mem.head _))))) (z_const X rfl (z_add X rfl (z_sld X S hL rfl (show 0 ≤ (i + 1) ∧ (i + 1) < (L : Int) by first | exact sx_in hi (by decide) | omega) ?_)))))
  have sr7 : rng (sc xs (i + 1)) := sc_rng
  refine z_aload_n X (x := q1) rfl (List.Mem.head _) (z_load X (x := i) rfl (List.Mem.tail _ (List.Mem.tail _ (List.Mem.tail _ (List.Mem.tail _ (List.Mem.head _))))) (z_const X rfl (z_add X rfl (z_sld X S hL rfl (show 0 ≤ (i + 2) ∧ (i + 2) < (L : Int) by first | exact sx_in hi (by decide) | omega) ?_))))
  have sr8 : rng (sc xs (i + 2)) := sc_rng
  refine z_aload_n X (x := A 517) rfl (List.Mem.tail _ (List.Mem.tail _ (List.Mem.tail _ (List.Mem.head _)))) (z_callL X (rm := rmN 337) (As := [.ref (A 0), .int (Int32.ofInt (sc xs (i + 1))), .int (Int32.ofInt (sc xs (i + 2))), .ref (A 517)]) (st := []) rfl (by decide) rfl (by rw [E.1, E.2.1, E.2.2.1]; exact lw_plan G I (by omega) (by omega) (by omega)) ⟨by rw [E.2.2.2]; exact (show 13 + 1 ≤ 2048 by decide), by rw [E.2.2.2]; exact (show 8 + (5 + 11) + 273 ≤ 84000 by decide), by rw [E.2.2.2]; exact (show ce + 2 ≤ 601024 by first | exact rmo_1 hce (by decide) | exact rmo_2 hce (by decide) | omega), by rw [E.2.2.2]; exact (show sl + 12 ≤ 7293034 by first | exact rmo_1 hsl (by decide) | exact rmo_2 hsl (by decide) | omega)⟩ (Nat.le_of_ble_eq_true rfl) (fun vv A s9 hA2 hq => ?_) (fun ee A s9 hA2 hq => ?_))
  rotate_left
  · obtain ⟨Is9, Fs9, e10, hv, hrs9, hps9⟩ := hq; cases hv
  obtain ⟨Is9, Fs9, e10, hv, hrs9, hps9⟩ := hq
  cases hv
  rw [← hA2 0 (by decide)]
  rw [← hA2 179 (by decide)]
  rw [← hA2 517 (by decide)]
  have Gs9 := fm_tq F Fs9 rfl rfl
  have JRLx_s9 : RLx s9 := RLx_fm Fs9 (by decide) jR
  have JFEQ_s9 : FEQ s9 := FEQ_fm Fs9 (by decide) jFEQ
  have ws9_0 : iI s9 0 = iI s 0 := fm_iq Fs9 rfl
  have ws9_74 : iI s9 74 = iI s 74 := fm_iq Fs9 rfl
  have ws9_9 : iI s9 9 = iI s 9 := fm_iq Fs9 rfl
  have ws9_90 : iI s9 90 = iI s 90 := fm_iq Fs9 rfl
  have ws9_12 : iI s9 12 = iI s 12 := fm_iq Fs9 rfl
  have ws9_89 : iI s9 89 = iI s 89 := fm_iq Fs9 rfl
  show WS k 1227 [(0, .ref q1), (1, .ref (A 0)), (2, .ref (A 179)), (3, .ref (A 517)), (4, .int (Int32.ofInt i))] [.int (Int32.ofInt e10)] (Wd A dT s9) (ce + 2) (sl + 12)
  refine z_store X (lv' := [(5, .int (Int32.ofInt e10)), (0, .ref q1), (1, .ref (A 0)), (2, .ref (A 179)), (3, .ref (A 517)), (4, .int (Int32.ofInt i))]) rfl (by decide) (fun _ h => h) (z_aload_n X (x := A 179) rfl (List.Mem.tail _ (List.Mem.tail _ (List.Mem.tail _ (List.Mem.head _)))) (z_aload_n X (x := q1) rfl (List.Mem.tail _ (List.Mem.head _)) (z_load X (x := i) rfl (List.Mem.tail _ (List.Mem.tail _ (List.Mem.tail _ (List.Mem.tail _ (List.Mem.tail _ (List.Mem.head _)))))) (z_const X rfl (z_add X rfl (z_sld X S hL rfl (show 0 ≤ (i + 1) ∧ (i + 1) < (L : Int) by first | exact sx_in hi (by decide) | omega) ?_))))))
  have sr11 : rng (sc xs (i + 1)) := sc_rng
  refine z_aload_n X (x := q1) rfl (List.Mem.tail _ (List.Mem.head _)) (z_load X (x := i) rfl (List.Mem.tail _ (List.Mem.tail _ (List.Mem.tail _ (List.Mem.tail _ (List.Mem.tail _ (List.Mem.head _)))))) (z_const X rfl (z_add X rfl (z_sld X S hL rfl (show 0 ≤ (i + 2) ∧ (i + 2) < (L : Int) by first | exact sx_in hi (by decide) | omega) ?_))))
  have sr12 : rng (sc xs (i + 2)) := sc_rng
  refine z_callV X 179 (rm := rmN 272) (As := [.int (Int32.ofInt (sc xs (i + 1))), .int (Int32.ofInt (sc xs (i + 2)))]) (st := []) rfl rfl (by decide) rfl (by rw [E.1, E.2.1, E.2.2.1]; exact k_plan G Is9 JRLx_s9 (by first | exact ⟨sr11.1, sr11.2⟩ | omega) (by first | exact ⟨sr12.1, sr12.2⟩ | omega) (by first | exact oq_b44a1c7f ws9_89 p1 b6.1 | omega)) ⟨by rw [E.2.2.2]; exact (show 64 + 1 ≤ 2048 from oq_5cbe2cb6), by rw [E.2.2.2]; exact (show 8 + (6 + 11) + 2742 ≤ 84000 from oq_276d7037), by rw [E.2.2.2]; exact (show (ce + 2) + 0 ≤ 601024 by omega), by rw [E.2.2.2]; exact (show (sl + 12) + 0 ≤ 7293034 by omega)⟩ (Nat.le_of_ble_eq_true rfl) (fun vv s13 hq => ?_) (fun ee s13 hq => ?_)
  rotate_left
  · obtain ⟨Is13, Fs13, JRLx_s13, e14, hv, hrs13, hps13⟩ := hq; cases hv
  obtain ⟨Is13, Fs13, JRLx_s13, e14, hv, hrs13, hps13⟩ := hq
  cases hv
  have Gs13 := fm_ts Gs9 Fs13 (by decide) (by decide +kernel)
  have JRLx_s13 : RLx s13 := RLx_fm Fs13 (by decide) JRLx_s9
  have JFEQ_s13 : FEQ s13 := FEQ_fm Fs13 (by decide) JFEQ_s9
  have ws13_0 : iI s13 0 = iI s9 0 := fm_iq Fs13 rfl
  have ws13_74 : iI s13 74 = iI s9 74 := fm_iq Fs13 rfl
  have ws13_9 : iI s13 9 = iI s9 9 := fm_iq Fs13 rfl
  have ws13_90 : iI s13 90 = iI s9 90 := fm_iq Fs13 rfl
  have ws13_12 : iI s13 12 = iI s9 12 := fm_iq Fs13 rfl
  have b15 := bi_89 Is13
  have wos13 : iO s13 = iO s9 := fm_o Fs13 (by decide)
  show WS k 1245 [(5, .int (Int32.ofInt e10)), (0, .ref q1), (1, .ref (A 0)), (2, .ref (A 179)), (3, .ref (A 517)), (4, .int (Int32.ofInt i))] [.int (Int32.ofInt e14)] (Wd A dT s13) (ce + 2) (sl + 12)
  refine z_store X (lv' := [(6, .int (Int32.ofInt e14)), (5, .int (Int32.ofInt e10)), (0, .ref q1), (1, .ref (A 0)), (2, .ref (A 179)), (3, .ref (A 517)), (4, .int (Int32.ofInt i))]) rfl (by decide) (fun _ h => h) (z_goto X (t := 1877) rfl rfl (w_widen (ce' := ce + 29) (sl' := sl + 222) (by first | exact Nat.le_add_right _ _ | exact Nat.add_le_add_left (by decide) _ | omega) (by first | exact Nat.le_add_right _ _ | exact Nat.add_le_add_left (by decide) _ | omega) ?_))
  exact WS_lv (lv := [(0, .ref q1), (1, .ref (A 0)), (2, .ref (A 179)), (3, .ref (A 517)), (4, .int (Int32.ofInt i))]) (List.forall_mem_cons.mpr ⟨(List.Mem.tail _ (List.Mem.tail _ (List.Mem.head _))), (List.forall_mem_cons.mpr ⟨(List.Mem.tail _ (List.Mem.tail _ (List.Mem.tail _ (List.Mem.head _)))), (List.forall_mem_cons.mpr ⟨(List.Mem.tail _ (List.Mem.tail _ (List.Mem.tail _ (List.Mem.tail _ (List.Mem.head _))))), (List.forall_mem_cons.mpr ⟨(List.Mem.tail _ (List.Mem.tail _ (List.Mem.tail _ (List.Mem.tail _ (List.Mem.tail _ (List.Mem.head _)))))), (List.forall_mem_cons.mpr ⟨(List.Mem.tail _ (List.Mem.tail _ (List.Mem.tail _ (List.Mem.tail _ (List.Mem.tail _ (List.Mem.tail _ (List.Mem.head _))))))), (fun q h => absurd h List.not_mem_nil)⟩)⟩)⟩)⟩)⟩) (hk A _ Is13 JRLx_s13 JFEQ_s13 (by first | exact hps13 | omega) (by first | exact oq_d7ce4408 ws13_12 ws9_12 p2 | omega) (by first | exact oq_5bcdc35f ws13_74 ws13_0 ws9_74 ws9_0 p3 | omega) (by first | exact oq_5bcdc35f ws13_90 ws13_9 ws9_90 ws9_9 p4 | omega))
theorem lc_29 (G : GX l s0 D tys a0 dT) (GR : RS0 s0) (SF : SF0 s0) (GT : TXs0 s0) {k : kx_T} (X : AX k 350 dT) (E : kL k = l ∧ kS0 k = s0 ∧ kD k = D ∧ kR k = room_1) {q1 L : Nat} {xs : Nat → Int32} (S : SX k q1 L xs) (hL : L ≤ 3072) (I : Bd s) (jR : RLx s) (jFEQ : FEQ s) (p1 : iI s 89 = 1) (p2 : iI s 12 ≤ 8) (p3 : iI s 0 = iI s 74) (p4 : iI s 9 = iI s 90) {i : Int} (hi : 0 ≤ i ∧ i + 6 ≤ (L : Int)) {ce sl : Nat} (hce : ce + 29 ≤ 601024) (hsl : sl + 222 ≤ 7293034) (hk : ∀ (A : Nat → Nat) (t : PS), Bd t → RLx t → FEQ t → iI t 89 = 1 → iI t 12 ≤ 8 → iI t 0 = iI t 74 → iI t 9 = iI t 90 → WS k 1877 [(0, .ref q1), (1, .ref (A 0)), (2, .ref (A 179)), (3, .ref (A 517)), (4, .int (Int32.ofInt i))] [] (Wd A dT t) (ce + 29) (sl + 222)) : WS k 1250 [(0, .ref q1), (1, .ref (A 0)), (2, .ref (A 179)), (3, .ref (A 517)), (4, .int (Int32.ofInt i))] [] (Wd A dT s) ce sl := by
  have F : Fm [36, 37, 73, 102, 103] [1460] s s := fm_rf _ _ s
  have b1 := bi_0 I
  have b2 := bi_74 I
  have b3 := bi_9 I
  have b4 := bi_90 I
  have b5 := bi_12 I
  have b6 := bi_89 I
  refine z_aload_n X (x := A 0) rfl (List.Mem.tail _ (List.Mem.head _)) (z_aload_n X (x := q1) rfl (List.Mem.head _) (z_load X (x := i) rfl (List.Mem.tail _ (List.Mem.tail _ (List.Mem.tail _ (List.Mem.tail _ (List.Mem.head _))))) (z_const X rfl (z_add X rfl (z_sld X S hL rfl (show 0 ≤ (i + 1) ∧ (i + 1) < (L : Int) by first | exact sx_in hi (by decide) | omega) ?_)))))
  have sr7 : rng (sc xs (i + 1)) := sc_rng
  refine z_aload_n X (x := q1) rfl (List.Mem.head _) (z_load X (x := i) rfl (List.Mem.tail _ (List.Mem.tail _ (List.Mem.tail _ (List.Mem.tail _ (List.Mem.head _))))) (z_const X rfl (z_add X rfl (z_sld X S hL rfl (show 0 ≤ (i + 2) ∧ (i + 2) < (L : Int) by first | exact sx_in hi (by decide) | omega) ?_))))
  have sr8 : rng (sc xs (i + 2)) := sc_rng
  refine z_aload_n X (x := A 517) rfl (List.Mem.tail _ (List.Mem.tail _ (List.Mem.tail _ (List.Mem.head _)))) (z_callL X (rm := rmN 338) (As := [.ref (A 0), .int (Int32.ofInt (sc xs (i + 1))), .int (Int32.ofInt (sc xs (i + 2))), .ref (A 517)]) (st := []) rfl (by decide) rfl (by rw [E.1, E.2.1, E.2.2.1]; exact lw_hours G I (by omega) (by omega)) ⟨by rw [E.2.2.2]; exact (show 8 + 1 ≤ 2048 by decide), by rw [E.2.2.2]; exact (show 8 + (5 + 11) + 145 ≤ 84000 by decide), by rw [E.2.2.2]; exact (show ce + 2 ≤ 601024 by first | exact rmo_1 hce (by decide) | exact rmo_2 hce (by decide) | omega), by rw [E.2.2.2]; exact (show sl + 12 ≤ 7293034 by first | exact rmo_1 hsl (by decide) | exact rmo_2 hsl (by decide) | omega)⟩ (Nat.le_of_ble_eq_true rfl) (fun vv A s9 hA2 hq => ?_) (fun ee A s9 hA2 hq => ?_))
  rotate_left
  · obtain ⟨Is9, Fs9, e10, hv, hrs9, hps9⟩ := hq; cases hv
  obtain ⟨Is9, Fs9, e10, hv, hrs9, hps9⟩ := hq
  cases hv
  rw [← hA2 0 (by decide)]
  rw [← hA2 179 (by decide)]
  rw [← hA2 517 (by decide)]
  have Gs9 := fm_tq F Fs9 rfl rfl
  have JRLx_s9 : RLx s9 := RLx_fm Fs9 (by decide) jR
  have JFEQ_s9 : FEQ s9 := FEQ_fm Fs9 (by decide) jFEQ
  have ws9_0 : iI s9 0 = iI s 0 := fm_iq Fs9 rfl
  have ws9_74 : iI s9 74 = iI s 74 := fm_iq Fs9 rfl
  have ws9_9 : iI s9 9 = iI s 9 := fm_iq Fs9 rfl
  have ws9_90 : iI s9 90 = iI s 90 := fm_iq Fs9 rfl
  have ws9_12 : iI s9 12 = iI s 12 := fm_iq Fs9 rfl
  have ws9_89 : iI s9 89 = iI s 89 := fm_iq Fs9 rfl
  show WS k 1267 [(0, .ref q1), (1, .ref (A 0)), (2, .ref (A 179)), (3, .ref (A 517)), (4, .int (Int32.ofInt i))] [.int (Int32.ofInt e10)] (Wd A dT s9) (ce + 2) (sl + 12)
  refine z_store X (lv' := [(5, .int (Int32.ofInt e10)), (0, .ref q1), (1, .ref (A 0)), (2, .ref (A 179)), (3, .ref (A 517)), (4, .int (Int32.ofInt i))]) rfl (by decide) (fun _ h => h) (z_aload_n X (x := A 179) rfl (List.Mem.tail _ (List.Mem.tail _ (List.Mem.tail _ (List.Mem.head _)))) (z_aload_n X (x := q1) rfl (List.Mem.tail _ (List.Mem.head _)) (z_load X (x := i) rfl (List.Mem.tail _ (List.Mem.tail _ (List.Mem.tail _ (List.Mem.tail _ (List.Mem.tail _ (List.Mem.head _)))))) (z_const X rfl (z_add X rfl (z_sld X S hL rfl (show 0 ≤ (i + 1) ∧ (i + 1) < (L : Int) by first | exact sx_in hi (by decide) | omega) ?_))))))
  have sr11 : rng (sc xs (i + 1)) := sc_rng
  refine z_aload_n X (x := q1) rfl (List.Mem.tail _ (List.Mem.head _)) (z_load X (x := i) rfl (List.Mem.tail _ (List.Mem.tail _ (List.Mem.tail _ (List.Mem.tail _ (List.Mem.tail _ (List.Mem.head _)))))) (z_const X rfl (z_add X rfl (z_sld X S hL rfl (show 0 ≤ (i + 2) ∧ (i + 2) < (L : Int) by first | exact sx_in hi (by decide) | omega) ?_))))
  have sr12 : rng (sc xs (i + 2)) := sc_rng
  refine z_callV X 179 (rm := rmN 273) (As := [.int (Int32.ofInt (sc xs (i + 1))), .int (Int32.ofInt (sc xs (i + 2)))]) (st := []) rfl rfl (by decide) rfl (by rw [E.1, E.2.1, E.2.2.1]; exact k_hours G Is9 (by first | exact ⟨sr11.1, sr11.2⟩ | omega) (by first | exact ⟨sr12.1, sr12.2⟩ | omega)) ⟨by rw [E.2.2.2]; exact (show 7 + 1 ≤ 2048 from oq_4e6106eb), by rw [E.2.2.2]; exact (show 8 + (4 + 11) + 122 ≤ 84000 from oq_ebbf79c1), by rw [E.2.2.2]; exact (show (ce + 2) + 0 ≤ 601024 by omega), by rw [E.2.2.2]; exact (show (sl + 12) + 0 ≤ 7293034 by omega)⟩ (Nat.le_of_ble_eq_true rfl) (fun vv s13 hq => ?_) (fun ee s13 hq => ?_)
  rotate_left
  · obtain ⟨Is13, Fs13, e14, hv, hrs13, hps13⟩ := hq; cases hv
  obtain ⟨Is13, Fs13, e14, hv, hrs13, hps13⟩ := hq
  cases hv
  have Gs13 := fm_tq Gs9 Fs13 rfl rfl
  have JRLx_s13 : RLx s13 := RLx_fm Fs13 (by decide) JRLx_s9
  have JFEQ_s13 : FEQ s13 := FEQ_fm Fs13 (by decide) JFEQ_s9
  have ws13_0 : iI s13 0 = iI s9 0 := fm_iq Fs13 rfl
  have ws13_74 : iI s13 74 = iI s9 74 := fm_iq Fs13 rfl
  have ws13_9 : iI s13 9 = iI s9 9 := fm_iq Fs13 rfl
  have ws13_90 : iI s13 90 = iI s9 90 := fm_iq Fs13 rfl
  have ws13_12 : iI s13 12 = iI s9 12 := fm_iq Fs13 rfl
  have ws13_89 : iI s13 89 = iI s9 89 := fm_iq Fs13 rfl
  have wos13 : iO s13 = iO s9 := fm_o Fs13 (by decide)
  show WS k 1285 [(5, .int (Int32.ofInt e10)), (0, .ref q1), (1, .ref (A 0)), (2, .ref (A 179)), (3, .ref (A 517)), (4, .int (Int32.ofInt i))] [.int (Int32.ofInt e14)] (Wd A dT s13) (ce + 2) (sl + 12)
  refine z_store X (lv' := [(6, .int (Int32.ofInt e14)), (5, .int (Int32.ofInt e10)), (0, .ref q1), (1, .ref (A 0)), (2, .ref (A 179)), (3, .ref (A 517)), (4, .int (Int32.ofInt i))]) rfl (by decide) (fun _ h => h) (z_goto X (t := 1877) rfl rfl (w_widen (ce' := ce + 29) (sl' := sl + 222) (by first | exact Nat.le_add_right _ _ | exact Nat.add_le_add_left (by decide) _ | omega) (by first | exact Nat.le_add_right _ _ | exact Nat.add_le_add_left (by decide) _ | omega) ?_))
  exact WS_lv (lv := [(0, .ref q1), (1, .ref (A 0)), (2, .ref (A 179)), (3, .ref (A 517)), (4, .int (Int32.ofInt i))]) (List.forall_mem_cons.mpr ⟨(List.Mem.tail _ (List.Mem.tail _ (List.Mem.head _))), (List.forall_mem_cons.mpr ⟨(List.Mem.tail _ (List.Mem.tail _ (List.Mem.tail _ (List.Mem.head _)))), (List.forall_mem_cons.mpr ⟨(List.Mem.tail _ (List.Mem.tail _ (List.Mem.tail _ (List.Mem.tail _ (List.Mem.head _))))), (List.forall_mem_cons.mpr ⟨(List.Mem.tail _ (List.Mem.tail _ (List.Mem.tail _ (List.Mem.tail _ (List.Mem.tail _ (List.Mem.head _)))))), (List.forall_mem_cons.mpr ⟨(List.Mem.tail _ (List.Mem.tail _ (List.Mem.tail _ (List.Mem.tail _ (List.Mem.tail _ (List.Mem.tail _ (List.Mem.head _))))))), (fun q h => absurd h List.not_mem_nil)⟩)⟩)⟩)⟩)⟩) (hk A _ Is13 JRLx_s13 JFEQ_s13 (by first | exact oq_f34933ba ws13_89 ws9_89 p1 b6.1 | omega) (by first | exact oq_d7ce4408 ws13_12 ws9_12 p2 | omega) (by first | exact oq_5bcdc35f ws13_74 ws13_0 ws9_74 ws9_0 p3 | omega) (by first | exact oq_5bcdc35f ws13_90 ws13_9 ws9_90 ws9_9 p4 | omega))
theorem lc_30 (G : GX l s0 D tys a0 dT) (GR : RS0 s0) (SF : SF0 s0) (GT : TXs0 s0) {k : kx_T} (X : AX k 350 dT) (E : kL k = l ∧ kS0 k = s0 ∧ kD k = D ∧ kR k = room_1) {q1 L : Nat} {xs : Nat → Int32} (S : SX k q1 L xs) (hL : L ≤ 3072) (I : Bd s) (jR : RLx s) (jFEQ : FEQ s) (p1 : iI s 89 = 1) (p2 : iI s 12 ≤ 8) (p3 : iI s 0 = iI s 74) (p4 : iI s 9 = iI s 90) {i : Int} (hi : 0 ≤ i ∧ i + 6 ≤ (L : Int)) {ce sl : Nat} (hce : ce + 29 ≤ 601024) (hsl : sl + 222 ≤ 7293034) (hk : ∀ (A : Nat → Nat) (t : PS), Bd t → RLx t → FEQ t → iI t 89 = 1 → iI t 12 ≤ 8 → iI t 0 = iI t 74 → iI t 9 = iI t 90 → WS k 1877 [(0, .ref q1), (1, .ref (A 0)), (2, .ref (A 179)), (3, .ref (A 517)), (4, .int (Int32.ofInt i))] [] (Wd A dT t) (ce + 29) (sl + 222)) : WS k 1290 [(0, .ref q1), (1, .ref (A 0)), (2, .ref (A 179)), (3, .ref (A 517)), (4, .int (Int32.ofInt i))] [] (Wd A dT s) ce sl := by
  have F : Fm [73] [52, 1460, 398] s s := fm_rf _ _ s
  have b1 := bi_0 I
  have b2 := bi_74 I
  have b3 := bi_9 I
  have b4 := bi_90 I
  have b5 := bi_12 I
  have b6 := bi_89 I
  refine z_aload_n X (x := A 0) rfl (List.Mem.tail _ (List.Mem.head _)) (z_aload_n X (x := q1) rfl (List.Mem.head _) (z_load X (x := i) rfl (List.Mem.tail _ (List.Mem.tail _ (List.Mem.tail _ (List.Mem.tail _ (List.Mem.head _))))) (z_const X rfl (z_add X rfl (z_sld X S hL rfl (show 0 ≤ (i + 1) ∧ (i + 1) < (L : Int) by first | exact sx_in hi (by decide) | omega) ?_)))))
  have sr7 : rng (sc xs (i + 1)) := sc_rng
  refine z_aload_n X (x := q1) rfl (List.Mem.head _) (z_load X (x := i) rfl (List.Mem.tail _ (List.Mem.tail _ (List.Mem.tail _ (List.Mem.tail _ (List.Mem.head _))))) (z_const X rfl (z_add X rfl (z_sld X S hL rfl (show 0 ≤ (i + 2) ∧ (i + 2) < (L : Int) by first | exact sx_in hi (by decide) | omega) ?_))))
  have sr8 : rng (sc xs (i + 2)) := sc_rng
  refine z_aload_n X (x := A 517) rfl (List.Mem.tail _ (List.Mem.tail _ (List.Mem.tail _ (List.Mem.head _)))) (z_callL X (rm := rmN 339) (As := [.ref (A 0), .int (Int32.ofInt (sc xs (i + 1))), .int (Int32.ofInt (sc xs (i + 2))), .ref (A 517)]) (st := []) rfl (by decide) rfl (by rw [E.1, E.2.1, E.2.2.1]; exact lw_ill G I (by omega) (by omega)) ⟨by rw [E.2.2.2]; exact (show 8 + 1 ≤ 2048 by decide), by rw [E.2.2.2]; exact (show 8 + (5 + 11) + 146 ≤ 84000 by decide), by rw [E.2.2.2]; exact (show ce + 2 ≤ 601024 by first | exact rmo_1 hce (by decide) | exact rmo_2 hce (by decide) | omega), by rw [E.2.2.2]; exact (show sl + 12 ≤ 7293034 by first | exact rmo_1 hsl (by decide) | exact rmo_2 hsl (by decide) | omega)⟩ (Nat.le_of_ble_eq_true rfl) (fun vv A s9 hA2 hq => ?_) (fun ee A s9 hA2 hq => ?_))
  rotate_left
  · obtain ⟨Is9, Fs9, e10, hv, hrs9, hps9⟩ := hq; cases hv
  obtain ⟨Is9, Fs9, e10, hv, hrs9, hps9⟩ := hq
  cases hv
  rw [← hA2 0 (by decide)]
  rw [← hA2 179 (by decide)]
  rw [← hA2 517 (by decide)]
  have Gs9 := fm_tq F Fs9 rfl rfl
  have JRLx_s9 : RLx s9 := RLx_fm Fs9 (by decide) jR
  have JFEQ_s9 : FEQ s9 := FEQ_fm Fs9 (by decide) jFEQ
  have ws9_0 : iI s9 0 = iI s 0 := fm_iq Fs9 rfl
  have ws9_74 : iI s9 74 = iI s 74 := fm_iq Fs9 rfl
  have ws9_9 : iI s9 9 = iI s 9 := fm_iq Fs9 rfl
  have ws9_90 : iI s9 90 = iI s 90 := fm_iq Fs9 rfl
  have ws9_12 : iI s9 12 = iI s 12 := fm_iq Fs9 rfl
  have ws9_89 : iI s9 89 = iI s 89 := fm_iq Fs9 rfl
  show WS k 1307 [(0, .ref q1), (1, .ref (A 0)), (2, .ref (A 179)), (3, .ref (A 517)), (4, .int (Int32.ofInt i))] [.int (Int32.ofInt e10)] (Wd A dT s9) (ce + 2) (sl + 12)
  refine z_store X (lv' := [(5, .int (Int32.ofInt e10)), (0, .ref q1), (1, .ref (A 0)), (2, .ref (A 179)), (3, .ref (A 517)), (4, .int (Int32.ofInt i))]) rfl (by decide) (fun _ h => h) (z_aload_n X (x := A 179) rfl (List.Mem.tail _ (List.Mem.tail _ (List.Mem.tail _ (List.Mem.head _)))) (z_aload_n X (x := q1) rfl (List.Mem.tail _ (List.Mem.head _)) (z_load X (x := i) rfl (List.Mem.tail _ (List.Mem.tail _ (List.Mem.tail _ (List.Mem.tail _ (List.Mem.tail _ (List.Mem.head _)))))) (z_const X rfl (z_add X rfl (z_sld X S hL rfl (show 0 ≤ (i + 1) ∧ (i + 1) < (L : Int) by first | exact sx_in hi (by decide) | omega) ?_))))))
  have sr11 : rng (sc xs (i + 1)) := sc_rng
  refine z_aload_n X (x := q1) rfl (List.Mem.tail _ (List.Mem.head _)) (z_load X (x := i) rfl (List.Mem.tail _ (List.Mem.tail _ (List.Mem.tail _ (List.Mem.tail _ (List.Mem.tail _ (List.Mem.head _)))))) (z_const X rfl (z_add X rfl (z_sld X S hL rfl (show 0 ≤ (i + 2) ∧ (i + 2) < (L : Int) by first | exact sx_in hi (by decide) | omega) ?_))))
  have sr12 : rng (sc xs (i + 2)) := sc_rng
  refine z_callV X 179 (rm := rmN 274) (As := [.int (Int32.ofInt (sc xs (i + 1))), .int (Int32.ofInt (sc xs (i + 2)))]) (st := []) rfl rfl (by decide) rfl (by rw [E.1, E.2.1, E.2.2.1]; exact k_ill G Is9 (by first | exact ⟨sr11.1, sr11.2⟩ | omega) (by first | exact ⟨sr12.1, sr12.2⟩ | omega)) ⟨by rw [E.2.2.2]; exact (show 7 + 1 ≤ 2048 from oq_4e6106eb), by rw [E.2.2.2]; exact (show 8 + (4 + 11) + 122 ≤ 84000 from oq_ebbf79c1), by rw [E.2.2.2]; exact (show (ce + 2) + 0 ≤ 601024 by omega), by rw [E.2.2.2]; exact (show (sl + 12) + 0 ≤ 7293034 by omega)⟩ (Nat.le_of_ble_eq_true rfl) (fun vv s13 hq => ?_) (fun ee s13 hq => ?_)
  rotate_left
  · obtain ⟨Is13, Fs13, e14, hv, hrs13, hps13⟩ := hq; cases hv
  obtain ⟨Is13, Fs13, e14, hv, hrs13, hps13⟩ := hq
  cases hv
  have Gs13 := fm_tq Gs9 Fs13 rfl rfl
  have JRLx_s13 : RLx s13 := RLx_fm Fs13 (by decide) JRLx_s9
  have JFEQ_s13 : FEQ s13 := FEQ_fm Fs13 (by decide) JFEQ_s9
  have ws13_0 : iI s13 0 = iI s9 0 := fm_iq Fs13 rfl
  have ws13_74 : iI s13 74 = iI s9 74 := fm_iq Fs13 rfl
  have ws13_9 : iI s13 9 = iI s9 9 := fm_iq Fs13 rfl
  have ws13_90 : iI s13 90 = iI s9 90 := fm_iq Fs13 rfl
  have ws13_12 : iI s13 12 = iI s9 12 := fm_iq Fs13 rfl
  have ws13_89 : iI s13 89 = iI s9 89 := fm_iq Fs13 rfl
  have wos13 : iO s13 = iO s9 := fm_o Fs13 (by decide)
  show WS k 1325 [(5, .int (Int32.ofInt e10)), (0, .ref q1), (1, .ref (A 0)), (2, .ref (A 179)), (3, .ref (A 517)), (4, .int (Int32.ofInt i))] [.int (Int32.ofInt e14)] (Wd A dT s13) (ce + 2) (sl + 12)
  refine z_store X (lv' := [(6, .int (Int32.ofInt e14)), (5, .int (Int32.ofInt e10)), (0, .ref q1), (1, .ref (A 0)), (2, .ref (A 179)), (3, .ref (A 517)), (4, .int (Int32.ofInt i))]) rfl (by decide) (fun _ h => h) (z_goto X (t := 1877) rfl rfl (w_widen (ce' := ce + 29) (sl' := sl + 222) (by first | exact Nat.le_add_right _ _ | exact Nat.add_le_add_left (by decide) _ | omega) (by first | exact Nat.le_add_right _ _ | exact Nat.add_le_add_left (by decide) _ | omega) ?_))
  exact WS_lv (lv := [(0, .ref q1), (1, .ref (A 0)), (2, .ref (A 179)), (3, .ref (A 517)), (4, .int (Int32.ofInt i))]) (List.forall_mem_cons.mpr ⟨(List.Mem.tail _ (List.Mem.tail _ (List.Mem.head _))), (List.forall_mem_cons.mpr ⟨(List.Mem.tail _ (List.Mem.tail _ (List.Mem.tail _ (List.Mem.head _)))), (List.forall_mem_cons.mpr ⟨(List.Mem.tail _ (List.Mem.tail _ (List.Mem.tail _ (List.Mem.tail _ (List.Mem.head _))))), (List.forall_mem_cons.mpr ⟨(List.Mem.tail _ (List.Mem.tail _ (List.Mem.tail _ (List.Mem.tail _ (List.Mem.tail _ (List.Mem.head _)))))), (List.forall_mem_cons.mpr ⟨(List.Mem.tail _ (List.Mem.tail _ (List.Mem.tail _ (List.Mem.tail _ (List.Mem.tail _ (List.Mem.tail _ (List.Mem.head _))))))), (fun q h => absurd h List.not_mem_nil)⟩)⟩)⟩)⟩)⟩) (hk A _ Is13 JRLx_s13 JFEQ_s13 (by first | exact oq_f34933ba ws13_89 ws9_89 p1 b6.1 | omega) (by first | exact oq_d7ce4408 ws13_12 ws9_12 p2 | omega) (by first | exact oq_5bcdc35f ws13_74 ws13_0 ws9_74 ws9_0 p3 | omega) (by first | exact oq_5bcdc35f ws13_90 ws13_9 ws9_90 ws9_9 p4 | omega))
theorem lc_31 (G : GX l s0 D tys a0 dT) (GR : RS0 s0) (SF : SF0 s0) (GT : TXs0 s0) {k : kx_T} (X : AX k 350 dT) (E : kL k = l ∧ kS0 k = s0 ∧ kD k = D ∧ kR k = room_1) {q1 L : Nat} {xs : Nat → Int32} (S : SX k q1 L xs) (hL : L ≤ 3072) (I : Bd s) (jR : RLx s) (jFEQ : FEQ s) (p1 : iI s 89 = 1) (p2 : iI s 12 ≤ 8) (p3 : iI s 0 = iI s 74) (p4 : iI s 9 = iI s 90) {i : Int} (hi : 0 ≤ i ∧ i + 6 ≤ (L : Int)) {ce sl : Nat} (hce : ce + 29 ≤ 601024) (hsl : sl + 222 ≤ 7293034) (hk : ∀ (A : Nat → Nat) (t : PS), Bd t → RLx t → FEQ t → iI t 89 = 1 → iI t 12 ≤ 8 → iI t 0 = iI t 74 → iI t 9 = iI t 90 → WS k 1877 [(0, .ref q1), (1, .ref (A 0)), (2, .ref (A 179)), (3, .ref (A 517)), (4, .int (Int32.ofInt i))] [] (Wd A dT t) (ce + 29) (sl + 222)) : WS k 1330 [(0, .ref q1), (1, .ref (A 0)), (2, .ref (A 179)), (3, .ref (A 517)), (4, .int (Int32.ofInt i))] [] (Wd A dT s) ce sl := by
  have F : Fm [22, 23, 24, 34, 35, 38, 73, 104, 77, 75, 78, 79, 80, 81, 89] [33, 26, 27, 28, 29, 30, 31, 32, 20, 48, 47, 49, 50, 51, 53, 54, 55, 56, 1460, 161, 230, 202, 204, 205, 206, 207, 208, 209, 210, 211, 212, 213, 214, 215, 216, 217, 218, 219, 220, 221, 222, 223, 224, 225, 226, 227, 203, 395, 396, 397, 245, 246, 247, 248, 249, 250, 251, 252, 253, 254, 255, 256, 257, 258, 259, 260, 261, 262, 263, 264, 265, 266, 267, 268, 269, 270, 271, 272, 273, 274, 275, 276, 277, 278, 279, 280, 281, 282, 283, 284, 285, 286, 287, 288, 289, 290, 291, 292, 293, 294, 295, 296, 297, 298, 299, 300, 301, 302, 303, 304, 305, 306, 307, 308, 309, 310, 311, 312, 313, 314, 315, 316, 317, 318, 319, 320, 321, 322, 323, 324, 325, 326, 327, 328, 329, 330, 331, 332, 333, 334, 335, 336, 337, 338, 339, 340, 341, 342, 343, 344, 345, 346, 347, 348, 349, 350, 351, 352, 353, 354, 355, 356, 357, 358, 359, 360, 361, 362, 363, 364, 365, 366, 367, 368, 369, 370, 371, 372, 373, 374, 375, 376, 377, 378, 379, 380, 381, 382, 383, 384, 385, 386, 387, 388, 389, 390, 391, 392, 393, 394] s s := fm_rf _ _ s
  have b1 := bi_0 I
  have b2 := bi_74 I
  have b3 := bi_9 I
  have b4 := bi_90 I
  have b5 := bi_12 I
  have b6 := bi_89 I
  refine z_aload_n X (x := A 0) rfl (List.Mem.tail _ (List.Mem.head _)) (z_aload_n X (x := q1) rfl (List.Mem.head _) (z_load X (x := i) rfl (List.Mem.tail _ (List.Mem.tail _ (List.Mem.tail _ (List.Mem.tail _ (List.Mem.head _))))) (z_const X rfl (z_add X rfl (z_sld X S hL rfl (show 0 ≤ (i + 1) ∧ (i + 1) < (L : Int) by first | exact sx_in hi (by decide) | omega) ?_)))))
  have sr7 : rng (sc xs (i + 1)) := sc_rng
  refine z_aload_n X (x := q1) rfl (List.Mem.head _) (z_load X (x := i) rfl (List.Mem.tail _ (List.Mem.tail _ (List.Mem.tail _ (List.Mem.tail _ (List.Mem.head _))))) (z_const X rfl (z_add X rfl (z_sld X S hL rfl (show 0 ≤ (i + 2) ∧ (i + 2) < (L : Int) by first | exact sx_in hi (by decide) | omega) ?_))))
  have sr8 : rng (sc xs (i + 2)) := sc_rng
  refine z_aload_n X (x := q1) rfl (List.Mem.head _) (z_load X (x := i) rfl (List.Mem.tail _ (List.Mem.tail _ (List.Mem.tail _ (List.Mem.tail _ (List.Mem.head _))))) (z_const X rfl (z_add X rfl (z_sld X S hL rfl (show 0 ≤ (i + 3) ∧ (i + 3) < (L : Int) by first | exact sx_in hi (by decide) | omega) ?_))))
  have sr9 : rng (sc xs (i + 3)) := sc_rng
  refine z_aload_n X (x := A 517) rfl (List.Mem.tail _ (List.Mem.tail _ (List.Mem.tail _ (List.Mem.head _)))) (z_callL X (rm := rmN 340) (As := [.ref (A 0), .int (Int32.ofInt (sc xs (i + 1))), .int (Int32.ofInt (sc xs (i + 2))), .int (Int32.ofInt (sc xs (i + 3))), .ref (A 517)]) (st := []) rfl (by decide) rfl (by rw [E.1, E.2.1, E.2.2.1]; exact lw_rota G I (by omega) (by omega) (by omega) (by omega)) ⟨by rw [E.2.2.2]; exact (show 13 + 1 ≤ 2048 by decide), by rw [E.2.2.2]; exact (show 8 + (6 + 11) + 274 ≤ 84000 by decide), by rw [E.2.2.2]; exact (show ce + 3 ≤ 601024 by first | exact rmo_1 hce (by decide) | exact rmo_2 hce (by decide) | omega), by rw [E.2.2.2]; exact (show sl + 18 ≤ 7293034 by first | exact rmo_1 hsl (by decide) | exact rmo_2 hsl (by decide) | omega)⟩ (Nat.le_of_ble_eq_true rfl) (fun vv A s10 hA2 hq => ?_) (fun ee A s10 hA2 hq => ?_))
  rotate_left
  · obtain ⟨Is10, Fs10, e11, hv, hrs10, hps10⟩ := hq; cases hv
  obtain ⟨Is10, Fs10, e11, hv, hrs10, hps10⟩ := hq
  cases hv
  rw [← hA2 0 (by decide)]
  rw [← hA2 179 (by decide)]
  rw [← hA2 517 (by decide)]
  have Gs10 := fm_tq F Fs10 rfl rfl
  have JRLx_s10 : RLx s10 := RLx_fm Fs10 (by decide) jR
  have JFEQ_s10 : FEQ s10 := FEQ_fm Fs10 (by decide) jFEQ
  have ws10_0 : iI s10 0 = iI s 0 := fm_iq Fs10 rfl
  have ws10_74 : iI s10 74 = iI s 74 := fm_iq Fs10 rfl
  have ws10_9 : iI s10 9 = iI s 9 := fm_iq Fs10 rfl
  have ws10_90 : iI s10 90 = iI s 90 := fm_iq Fs10 rfl
  have ws10_12 : iI s10 12 = iI s 12 := fm_iq Fs10 rfl
  have ws10_89 : iI s10 89 = iI s 89 := fm_iq Fs10 rfl
  show WS k 1353 [(0, .ref q1), (1, .ref (A 0)), (2, .ref (A 179)), (3, .ref (A 517)), (4, .int (Int32.ofInt i))] [.int (Int32.ofInt e11)] (Wd A dT s10) (ce + 3) (sl + 18)
  refine z_store X (lv' := [(5, .int (Int32.ofInt e11)), (0, .ref q1), (1, .ref (A 0)), (2, .ref (A 179)), (3, .ref (A 517)), (4, .int (Int32.ofInt i))]) rfl (by decide) (fun _ h => h) (z_aload_n X (x := A 179) rfl (List.Mem.tail _ (List.Mem.tail _ (List.Mem.tail _ (List.Mem.head _)))) (z_aload_n X (x := q1) rfl (List.Mem.tail _ (List.Mem.head _)) (z_load X (x := i) rfl (List.Mem.tail _ (List.Mem.tail _ (List.Mem.tail _ (List.Mem.tail _ (List.Mem.tail _ (List.Mem.head _)))))) (z_const X rfl (z_add X rfl (z_sld X S hL rfl (show 0 ≤ (i + 1) ∧ (i + 1) < (L : Int) by first | exact sx_in hi (by decide) | omega) ?_))))))
  have sr12 : rng (sc xs (i + 1)) := sc_rng
  refine z_aload_n X (x := q1) rfl (List.Mem.tail _ (List.Mem.head _)) (z_load X (x := i) rfl (List.Mem.tail _ (List.Mem.tail _ (List.Mem.tail _ (List.Mem.tail _ (List.Mem.tail _ (List.Mem.head _)))))) (z_const X rfl (z_add X rfl (z_sld X S hL rfl (show 0 ≤ (i + 2) ∧ (i + 2) < (L : Int) by first | exact sx_in hi (by decide) | omega) ?_))))
  have sr13 : rng (sc xs (i + 2)) := sc_rng
  refine z_aload_n X (x := q1) rfl (List.Mem.tail _ (List.Mem.head _)) (z_load X (x := i) rfl (List.Mem.tail _ (List.Mem.tail _ (List.Mem.tail _ (List.Mem.tail _ (List.Mem.tail _ (List.Mem.head _)))))) (z_const X rfl (z_add X rfl (z_sld X S hL rfl (show 0 ≤ (i + 3) ∧ (i + 3) < (L : Int) by first | exact sx_in hi (by decide) | omega) ?_))))
  have sr14 : rng (sc xs (i + 3)) := sc_rng
  refine z_callV X 179 (rm := rmN 276) (As := [.int (Int32.ofInt (sc xs (i + 1))), .int (Int32.ofInt (sc xs (i + 2))), .int (Int32.ofInt (sc xs (i + 3)))]) (st := []) rfl rfl (by decide) rfl (by rw [E.1, E.2.1, E.2.2.1]; exact k_rota G Is10 JRLx_s10 (by first | exact ⟨sr12.1, sr12.2⟩ | omega) (by first | exact ⟨sr13.1, sr13.2⟩ | omega) (by first | exact ⟨sr14.1, sr14.2⟩ | omega) (by first | exact oq_b44a1c7f ws10_89 p1 b6.1 | omega)) ⟨by rw [E.2.2.2]; exact (show 64 + 1 ≤ 2048 from oq_5cbe2cb6), by rw [E.2.2.2]; exact (show 8 + (4 + 11) + 2742 ≤ 84000 from oq_31d93303), by rw [E.2.2.2]; exact (show (ce + 3) + 3 ≤ 601024 by omega), by rw [E.2.2.2]; exact (show (sl + 18) + 24 ≤ 7293034 by omega)⟩ (Nat.le_of_ble_eq_true rfl) (fun vv s15 hq => ?_) (fun ee s15 hq => ?_)
  rotate_left
  · obtain ⟨Is15, Fs15, JRLx_s15, e16, hv, hrs15, hps15⟩ := hq; cases hv
  obtain ⟨Is15, Fs15, JRLx_s15, e16, hv, hrs15, hps15⟩ := hq
  cases hv
  have Gs15 := fm_ts Gs10 Fs15 (by decide) (by decide +kernel)
  have JRLx_s15 : RLx s15 := RLx_fm Fs15 (by decide) JRLx_s10
  have JFEQ_s15 : FEQ s15 := FEQ_fm Fs15 (by decide) JFEQ_s10
  have ws15_0 : iI s15 0 = iI s10 0 := fm_iq Fs15 rfl
  have ws15_74 : iI s15 74 = iI s10 74 := fm_iq Fs15 rfl
  have ws15_9 : iI s15 9 = iI s10 9 := fm_iq Fs15 rfl
  have ws15_90 : iI s15 90 = iI s10 90 := fm_iq Fs15 rfl
  have ws15_12 : iI s15 12 = iI s10 12 := fm_iq Fs15 rfl
  have b17 := bi_89 Is15
  have wos15 : iO s15 = iO s10 := fm_o Fs15 (by decide)
  show WS k 1377 [(5, .int (Int32.ofInt e11)), (0, .ref q1), (1, .ref (A 0)), (2, .ref (A 179)), (3, .ref (A 517)), (4, .int (Int32.ofInt i))] [.int (Int32.ofInt e16)] (Wd A dT s15) ((ce + 3) + 3) ((sl + 18) + 24)
  refine z_store X (lv' := [(6, .int (Int32.ofInt e16)), (5, .int (Int32.ofInt e11)), (0, .ref q1), (1, .ref (A 0)), (2, .ref (A 179)), (3, .ref (A 517)), (4, .int (Int32.ofInt i))]) rfl (by decide) (fun _ h => h) (z_goto X (t := 1877) rfl rfl (w_widen (ce' := ce + 29) (sl' := sl + 222) (by first | exact Nat.le_add_right _ _ | exact Nat.add_le_add_left (by decide) _ | omega) (by first | exact Nat.le_add_right _ _ | exact Nat.add_le_add_left (by decide) _ | omega) ?_))
  exact WS_lv (lv := [(0, .ref q1), (1, .ref (A 0)), (2, .ref (A 179)), (3, .ref (A 517)), (4, .int (Int32.ofInt i))]) (List.forall_mem_cons.mpr ⟨(List.Mem.tail _ (List.Mem.tail _ (List.Mem.head _))), (List.forall_mem_cons.mpr ⟨(List.Mem.tail _ (List.Mem.tail _ (List.Mem.tail _ (List.Mem.head _)))), (List.forall_mem_cons.mpr ⟨(List.Mem.tail _ (List.Mem.tail _ (List.Mem.tail _ (List.Mem.tail _ (List.Mem.head _))))), (List.forall_mem_cons.mpr ⟨(List.Mem.tail _ (List.Mem.tail _ (List.Mem.tail _ (List.Mem.tail _ (List.Mem.tail _ (List.Mem.head _)))))), (List.forall_mem_cons.mpr ⟨(List.Mem.tail _ (List.Mem.tail _ (List.Mem.tail _ (List.Mem.tail _ (List.Mem.tail _ (List.Mem.tail _ (List.Mem.head _))))))), (fun q h => absurd h List.not_mem_nil)⟩)⟩)⟩)⟩)⟩) (hk A _ Is15 JRLx_s15 JFEQ_s15 (by first | exact hps15 | omega) (by first | exact oq_d7ce4408 ws15_12 ws10_12 p2 | omega) (by first | exact oq_5bcdc35f ws15_74 ws15_0 ws10_74 ws10_0 p3 | omega) (by first | exact oq_5bcdc35f ws15_90 ws15_9 ws10_90 ws10_9 p4 | omega))
theorem lc_32 (G : GX l s0 D tys a0 dT) (GR : RS0 s0) (SF : SF0 s0) (GT : TXs0 s0) {k : kx_T} (X : AX k 350 dT) (E : kL k = l ∧ kS0 k = s0 ∧ kD k = D ∧ kR k = room_1) {q1 L : Nat} {xs : Nat → Int32} (S : SX k q1 L xs) (hL : L ≤ 3072) (I : Bd s) (jR : RLx s) (jFEQ : FEQ s) (p1 : iI s 89 = 1) (p2 : iI s 12 ≤ 8) (p3 : iI s 0 = iI s 74) (p4 : iI s 9 = iI s 90) {i : Int} (hi : 0 ≤ i ∧ i + 6 ≤ (L : Int)) {ce sl : Nat} (hce : ce + 29 ≤ 601024) (hsl : sl + 222 ≤ 7293034) (hk : ∀ (A : Nat → Nat) (t : PS), Bd t → RLx t → FEQ t → iI t 89 = 1 → iI t 12 ≤ 8 → iI t 0 = iI t 74 → iI t 9 = iI t 90 → WS k 1877 [(0, .ref q1), (1, .ref (A 0)), (2, .ref (A 179)), (3, .ref (A 517)), (4, .int (Int32.ofInt i))] [] (Wd A dT t) (ce + 29) (sl + 222)) : WS k 1382 [(0, .ref q1), (1, .ref (A 0)), (2, .ref (A 179)), (3, .ref (A 517)), (4, .int (Int32.ofInt i))] [] (Wd A dT s) ce sl := by
  have F : Fm [22, 23, 24, 34, 35, 38, 73, 104, 77, 75, 78, 79, 80, 81, 89] [33, 26, 27, 28, 29, 30, 31, 32, 20, 48, 47, 49, 50, 51, 53, 54, 55, 56, 1460, 161, 230, 202, 204, 205, 206, 207, 208, 209, 210, 211, 212, 213, 214, 215, 216, 217, 218, 219, 220, 221, 222, 223, 224, 225, 226, 227, 203, 395, 396, 397, 245, 246, 247, 248, 249, 250, 251, 252, 253, 254, 255, 256, 257, 258, 259, 260, 261, 262, 263, 264, 265, 266, 267, 268, 269, 270, 271, 272, 273, 274, 275, 276, 277, 278, 279, 280, 281, 282, 283, 284, 285, 286, 287, 288, 289, 290, 291, 292, 293, 294, 295, 296, 297, 298, 299, 300, 301, 302, 303, 304, 305, 306, 307, 308, 309, 310, 311, 312, 313, 314, 315, 316, 317, 318, 319, 320, 321, 322, 323, 324, 325, 326, 327, 328, 329, 330, 331, 332, 333, 334, 335, 336, 337, 338, 339, 340, 341, 342, 343, 344, 345, 346, 347, 348, 349, 350, 351, 352, 353, 354, 355, 356, 357, 358, 359, 360, 361, 362, 363, 364, 365, 366, 367, 368, 369, 370, 371, 372, 373, 374, 375, 376, 377, 378, 379, 380, 381, 382, 383, 384, 385, 386, 387, 388, 389, 390, 391, 392, 393, 394] s s := fm_rf _ _ s
  have b1 := bi_0 I
  have b2 := bi_74 I
  have b3 := bi_9 I
  have b4 := bi_90 I
  have b5 := bi_12 I
  have b6 := bi_89 I
  refine z_aload_n X (x := A 0) rfl (List.Mem.tail _ (List.Mem.head _)) (z_aload_n X (x := q1) rfl (List.Mem.head _) (z_load X (x := i) rfl (List.Mem.tail _ (List.Mem.tail _ (List.Mem.tail _ (List.Mem.tail _ (List.Mem.head _))))) (z_const X rfl (z_add X rfl (z_sld X S hL rfl (show 0 ≤ (i + 1) ∧ (i + 1) < (L : Int) by first | exact sx_in hi (by decide) | omega) ?_)))))
  have sr7 : rng (sc xs (i + 1)) := sc_rng
  refine z_aload_n X (x := q1) rfl (List.Mem.head _) (z_load X (x := i) rfl (List.Mem.tail _ (List.Mem.tail _ (List.Mem.tail _ (List.Mem.tail _ (List.Mem.head _))))) (z_const X rfl (z_add X rfl (z_sld X S hL rfl (show 0 ≤ (i + 2) ∧ (i + 2) < (L : Int) by first | exact sx_in hi (by decide) | omega) ?_))))
  have sr8 : rng (sc xs (i + 2)) := sc_rng
  refine z_aload_n X (x := A 517) rfl (List.Mem.tail _ (List.Mem.tail _ (List.Mem.tail _ (List.Mem.head _)))) (z_callL X (rm := rmN 341) (As := [.ref (A 0), .int (Int32.ofInt (sc xs (i + 1))), .int (Int32.ofInt (sc xs (i + 2))), .ref (A 517)]) (st := []) rfl (by decide) rfl (by rw [E.1, E.2.1, E.2.2.1]; exact lw_lacks G I (by omega) (by omega) (by omega)) ⟨by rw [E.2.2.2]; exact (show 13 + 1 ≤ 2048 by decide), by rw [E.2.2.2]; exact (show 8 + (5 + 11) + 273 ≤ 84000 by decide), by rw [E.2.2.2]; exact (show ce + 2 ≤ 601024 by first | exact rmo_1 hce (by decide) | exact rmo_2 hce (by decide) | omega), by rw [E.2.2.2]; exact (show sl + 12 ≤ 7293034 by first | exact rmo_1 hsl (by decide) | exact rmo_2 hsl (by decide) | omega)⟩ (Nat.le_of_ble_eq_true rfl) (fun vv A s9 hA2 hq => ?_) (fun ee A s9 hA2 hq => ?_))
  rotate_left
  · obtain ⟨Is9, Fs9, e10, hv, hrs9, hps9⟩ := hq; cases hv
  obtain ⟨Is9, Fs9, e10, hv, hrs9, hps9⟩ := hq
  cases hv
  rw [← hA2 0 (by decide)]
  rw [← hA2 179 (by decide)]
  rw [← hA2 517 (by decide)]
  have Gs9 := fm_tq F Fs9 rfl rfl
  have JRLx_s9 : RLx s9 := RLx_fm Fs9 (by decide) jR
  have JFEQ_s9 : FEQ s9 := FEQ_fm Fs9 (by decide) jFEQ
  have ws9_0 : iI s9 0 = iI s 0 := fm_iq Fs9 rfl
  have ws9_74 : iI s9 74 = iI s 74 := fm_iq Fs9 rfl
  have ws9_9 : iI s9 9 = iI s 9 := fm_iq Fs9 rfl
  have ws9_90 : iI s9 90 = iI s 90 := fm_iq Fs9 rfl
  have ws9_12 : iI s9 12 = iI s 12 := fm_iq Fs9 rfl
  have ws9_89 : iI s9 89 = iI s 89 := fm_iq Fs9 rfl
  show WS k 1399 [(0, .ref q1), (1, .ref (A 0)), (2, .ref (A 179)), (3, .ref (A 517)), (4, .int (Int32.ofInt i))] [.int (Int32.ofInt e10)] (Wd A dT s9) (ce + 2) (sl + 12)
  refine z_store X (lv' := [(5, .int (Int32.ofInt e10)), (0, .ref q1), (1, .ref (A 0)), (2, .ref (A 179)), (3, .ref (A 517)), (4, .int (Int32.ofInt i))]) rfl (by decide) (fun _ h => h) (z_aload_n X (x := A 179) rfl (List.Mem.tail _ (List.Mem.tail _ (List.Mem.tail _ (List.Mem.head _)))) (z_aload_n X (x := q1) rfl (List.Mem.tail _ (List.Mem.head _)) (z_load X (x := i) rfl (List.Mem.tail _ (List.Mem.tail _ (List.Mem.tail _ (List.Mem.tail _ (List.Mem.tail _ (List.Mem.head _)))))) (z_const X rfl (z_add X rfl (z_sld X S hL rfl (show 0 ≤ (i + 1) ∧ (i + 1) < (L : Int) by first | exact sx_in hi (by decide) | omega) ?_))))))
  have sr11 : rng (sc xs (i + 1)) := sc_rng
  refine z_aload_n X (x := q1) rfl (List.Mem.tail _ (List.Mem.head _)) (z_load X (x := i) rfl (List.Mem.tail _ (List.Mem.tail _ (List.Mem.tail _ (List.Mem.tail _ (List.Mem.tail _ (List.Mem.head _)))))) (z_const X rfl (z_add X rfl (z_sld X S hL rfl (show 0 ≤ (i + 2) ∧ (i + 2) < (L : Int) by first | exact sx_in hi (by decide) | omega) ?_))))
  have sr12 : rng (sc xs (i + 2)) := sc_rng
  refine z_callV X 179 (rm := rmN 277) (As := [.int (Int32.ofInt (sc xs (i + 1))), .int (Int32.ofInt (sc xs (i + 2)))]) (st := []) rfl rfl (by decide) rfl (by rw [E.1, E.2.1, E.2.2.1]; exact k_lacks G Is9 JRLx_s9 (by first | exact ⟨sr11.1, sr11.2⟩ | omega) (by first | exact ⟨sr12.1, sr12.2⟩ | omega) (by first | exact oq_b44a1c7f ws9_89 p1 b6.1 | omega)) ⟨by rw [E.2.2.2]; exact (show 64 + 1 ≤ 2048 from oq_5cbe2cb6), by rw [E.2.2.2]; exact (show 8 + (3 + 11) + 2742 ≤ 84000 from oq_151ba25b), by rw [E.2.2.2]; exact (show (ce + 2) + 3 ≤ 601024 by omega), by rw [E.2.2.2]; exact (show (sl + 12) + 24 ≤ 7293034 by omega)⟩ (Nat.le_of_ble_eq_true rfl) (fun vv s13 hq => ?_) (fun ee s13 hq => ?_)
  rotate_left
  · obtain ⟨Is13, Fs13, JRLx_s13, e14, hv, hrs13, hps13⟩ := hq; cases hv
  obtain ⟨Is13, Fs13, JRLx_s13, e14, hv, hrs13, hps13⟩ := hq
  cases hv
  have Gs13 := fm_ts Gs9 Fs13 (by decide) (by decide +kernel)
  have JRLx_s13 : RLx s13 := RLx_fm Fs13 (by decide) JRLx_s9
  have JFEQ_s13 : FEQ s13 := FEQ_fm Fs13 (by decide) JFEQ_s9
  have ws13_0 : iI s13 0 = iI s9 0 := fm_iq Fs13 rfl
  have ws13_74 : iI s13 74 = iI s9 74 := fm_iq Fs13 rfl
  have ws13_9 : iI s13 9 = iI s9 9 := fm_iq Fs13 rfl
  have ws13_90 : iI s13 90 = iI s9 90 := fm_iq Fs13 rfl
  have ws13_12 : iI s13 12 = iI s9 12 := fm_iq Fs13 rfl
  have b15 := bi_89 Is13
  have wos13 : iO s13 = iO s9 := fm_o Fs13 (by decide)
  show WS k 1417 [(5, .int (Int32.ofInt e10)), (0, .ref q1), (1, .ref (A 0)), (2, .ref (A 179)), (3, .ref (A 517)), (4, .int (Int32.ofInt i))] [.int (Int32.ofInt e14)] (Wd A dT s13) ((ce + 2) + 3) ((sl + 12) + 24)
  refine z_store X (lv' := [(6, .int (Int32.ofInt e14)), (5, .int (Int32.ofInt e10)), (0, .ref q1), (1, .ref (A 0)), (2, .ref (A 179)), (3, .ref (A 517)), (4, .int (Int32.ofInt i))]) rfl (by decide) (fun _ h => h) (z_goto X (t := 1877) rfl rfl (w_widen (ce' := ce + 29) (sl' := sl + 222) (by first | exact Nat.le_add_right _ _ | exact Nat.add_le_add_left (by decide) _ | omega) (by first | exact Nat.le_add_right _ _ | exact Nat.add_le_add_left (by decide) _ | omega) ?_))
  exact WS_lv (lv := [(0, .ref q1), (1, .ref (A 0)), (2, .ref (A 179)), (3, .ref (A 517)), (4, .int (Int32.ofInt i))]) (List.forall_mem_cons.mpr ⟨(List.Mem.tail _ (List.Mem.tail _ (List.Mem.head _))), (List.forall_mem_cons.mpr ⟨(List.Mem.tail _ (List.Mem.tail _ (List.Mem.tail _ (List.Mem.head _)))), (List.forall_mem_cons.mpr ⟨(List.Mem.tail _ (List.Mem.tail _ (List.Mem.tail _ (List.Mem.tail _ (List.Mem.head _))))), (List.forall_mem_cons.mpr ⟨(List.Mem.tail _ (List.Mem.tail _ (List.Mem.tail _ (List.Mem.tail _ (List.Mem.tail _ (List.Mem.head _)))))), (List.forall_mem_cons.mpr ⟨(List.Mem.tail _ (List.Mem.tail _ (List.Mem.tail _ (List.Mem.tail _ (List.Mem.tail _ (List.Mem.tail _ (List.Mem.head _))))))), (fun q h => absurd h List.not_mem_nil)⟩)⟩)⟩)⟩)⟩) (hk A _ Is13 JRLx_s13 JFEQ_s13 (by first | exact hps13 | omega) (by first | exact oq_d7ce4408 ws13_12 ws9_12 p2 | omega) (by first | exact oq_5bcdc35f ws13_74 ws13_0 ws9_74 ws9_0 p3 | omega) (by first | exact oq_5bcdc35f ws13_90 ws13_9 ws9_90 ws9_9 p4 | omega))
theorem lc_33 (G : GX l s0 D tys a0 dT) (GR : RS0 s0) (SF : SF0 s0) (GT : TXs0 s0) {k : kx_T} (X : AX k 350 dT) (E : kL k = l ∧ kS0 k = s0 ∧ kD k = D ∧ kR k = room_1) {q1 L : Nat} {xs : Nat → Int32} (S : SX k q1 L xs) (hL : L ≤ 3072) (I : Bd s) (jR : RLx s) (jFEQ : FEQ s) (p1 : iI s 89 = 1) (p2 : iI s 12 ≤ 8) (p3 : iI s 0 = iI s 74) (p4 : iI s 9 = iI s 90) {i : Int} (hi : 0 ≤ i ∧ i + 6 ≤ (L : Int)) {ce sl : Nat} (hce : ce + 29 ≤ 601024) (hsl : sl + 222 ≤ 7293034) (hk : ∀ (A : Nat → Nat) (t : PS), Bd t → RLx t → FEQ t → iI t 89 = 1 → iI t 12 ≤ 8 → iI t 0 = iI t 74 → iI t 9 = iI t 90 → WS k 1877 [(0, .ref q1), (1, .ref (A 0)), (2, .ref (A 179)), (3, .ref (A 517)), (4, .int (Int32.ofInt i))] [] (Wd A dT t) (ce + 29) (sl + 222)) : WS k 1422 [(0, .ref q1), (1, .ref (A 0)), (2, .ref (A 179)), (3, .ref (A 517)), (4, .int (Int32.ofInt i))] [] (Wd A dT s) ce sl := by
  have F : Fm [22, 23, 24, 34, 35, 38, 73, 104, 77, 75, 78, 79, 80, 81, 89] [33, 26, 27, 28, 29, 30, 31, 32, 20, 48, 47, 49, 50, 51, 53, 54, 55, 56, 1460, 161, 230, 202, 204, 205, 206, 207, 208, 209, 210, 211, 212, 213, 214, 215, 216, 217, 218, 219, 220, 221, 222, 223, 224, 225, 226, 227, 203, 395, 396, 397, 245, 246, 247, 248, 249, 250, 251, 252, 253, 254, 255, 256, 257, 258, 259, 260, 261, 262, 263, 264, 265, 266, 267, 268, 269, 270, 271, 272, 273, 274, 275, 276, 277, 278, 279, 280, 281, 282, 283, 284, 285, 286, 287, 288, 289, 290, 291, 292, 293, 294, 295, 296, 297, 298, 299, 300, 301, 302, 303, 304, 305, 306, 307, 308, 309, 310, 311, 312, 313, 314, 315, 316, 317, 318, 319, 320, 321, 322, 323, 324, 325, 326, 327, 328, 329, 330, 331, 332, 333, 334, 335, 336, 337, 338, 339, 340, 341, 342, 343, 344, 345, 346, 347, 348, 349, 350, 351, 352, 353, 354, 355, 356, 357, 358, 359, 360, 361, 362, 363, 364, 365, 366, 367, 368, 369, 370, 371, 372, 373, 374, 375, 376, 377, 378, 379, 380, 381, 382, 383, 384, 385, 386, 387, 388, 389, 390, 391, 392, 393, 394] s s := fm_rf _ _ s
  have b1 := bi_0 I
  have b2 := bi_74 I
  have b3 := bi_9 I
  have b4 := bi_90 I
  have b5 := bi_12 I
  have b6 := bi_89 I
  refine z_aload_n X (x := A 0) rfl (List.Mem.tail _ (List.Mem.head _)) (z_aload_n X (x := q1) rfl (List.Mem.head _) (z_load X (x := i) rfl (List.Mem.tail _ (List.Mem.tail _ (List.Mem.tail _ (List.Mem.tail _ (List.Mem.head _))))) (z_const X rfl (z_add X rfl (z_sld X S hL rfl (show 0 ≤ (i + 1) ∧ (i + 1) < (L : Int) by first | exact sx_in hi (by decide) | omega) ?_)))))
  have sr7 : rng (sc xs (i + 1)) := sc_rng
  refine z_aload_n X (x := A 517) rfl (List.Mem.tail _ (List.Mem.tail _ (List.Mem.tail _ (List.Mem.head _)))) (z_callL X (rm := rmN 342) (As := [.ref (A 0), .int (Int32.ofInt (sc xs (i + 1))), .ref (A 517)]) (st := []) rfl (by decide) rfl (by rw [E.1, E.2.1, E.2.2.1]; exact lw_enough G I (by omega) (by omega)) ⟨by rw [E.2.2.2]; exact (show 13 + 1 ≤ 2048 by decide), by rw [E.2.2.2]; exact (show 8 + (4 + 11) + 273 ≤ 84000 by decide), by rw [E.2.2.2]; exact (show ce + 1 ≤ 601024 by first | exact rmo_1 hce (by decide) | exact rmo_2 hce (by decide) | omega), by rw [E.2.2.2]; exact (show sl + 6 ≤ 7293034 by first | exact rmo_1 hsl (by decide) | exact rmo_2 hsl (by decide) | omega)⟩ (Nat.le_of_ble_eq_true rfl) (fun vv A s8 hA2 hq => ?_) (fun ee A s8 hA2 hq => ?_))
  rotate_left
  · obtain ⟨Is8, Fs8, e9, hv, hrs8, hps8⟩ := hq; cases hv
  obtain ⟨Is8, Fs8, e9, hv, hrs8, hps8⟩ := hq
  cases hv
  rw [← hA2 0 (by decide)]
  rw [← hA2 179 (by decide)]
  rw [← hA2 517 (by decide)]
  have Gs8 := fm_tq F Fs8 rfl rfl
  have JRLx_s8 : RLx s8 := RLx_fm Fs8 (by decide) jR
  have JFEQ_s8 : FEQ s8 := FEQ_fm Fs8 (by decide) jFEQ
  have ws8_0 : iI s8 0 = iI s 0 := fm_iq Fs8 rfl
  have ws8_74 : iI s8 74 = iI s 74 := fm_iq Fs8 rfl
  have ws8_9 : iI s8 9 = iI s 9 := fm_iq Fs8 rfl
  have ws8_90 : iI s8 90 = iI s 90 := fm_iq Fs8 rfl
  have ws8_12 : iI s8 12 = iI s 12 := fm_iq Fs8 rfl
  have ws8_89 : iI s8 89 = iI s 89 := fm_iq Fs8 rfl
  show WS k 1433 [(0, .ref q1), (1, .ref (A 0)), (2, .ref (A 179)), (3, .ref (A 517)), (4, .int (Int32.ofInt i))] [.int (Int32.ofInt e9)] (Wd A dT s8) (ce + 1) (sl + 6)
  refine z_store X (lv' := [(5, .int (Int32.ofInt e9)), (0, .ref q1), (1, .ref (A 0)), (2, .ref (A 179)), (3, .ref (A 517)), (4, .int (Int32.ofInt i))]) rfl (by decide) (fun _ h => h) (z_aload_n X (x := A 179) rfl (List.Mem.tail _ (List.Mem.tail _ (List.Mem.tail _ (List.Mem.head _)))) (z_aload_n X (x := q1) rfl (List.Mem.tail _ (List.Mem.head _)) (z_load X (x := i) rfl (List.Mem.tail _ (List.Mem.tail _ (List.Mem.tail _ (List.Mem.tail _ (List.Mem.tail _ (List.Mem.head _)))))) (z_const X rfl (z_add X rfl (z_sld X S hL rfl (show 0 ≤ (i + 1) ∧ (i + 1) < (L : Int) by first | exact sx_in hi (by decide) | omega) ?_))))))
  have sr10 : rng (sc xs (i + 1)) := sc_rng
  refine z_callV X 179 (rm := rmN 278) (As := [.int (Int32.ofInt (sc xs (i + 1)))]) (st := []) rfl rfl (by decide) rfl (by rw [E.1, E.2.1, E.2.2.1]; exact k_enough G Is8 JRLx_s8 (by first | exact ⟨sr10.1, sr10.2⟩ | omega) (by first | exact oq_b44a1c7f ws8_89 p1 b6.1 | omega)) ⟨by rw [E.2.2.2]; exact (show 64 + 1 ≤ 2048 from oq_5cbe2cb6), by rw [E.2.2.2]; exact (show 8 + (3 + 11) + 2742 ≤ 84000 from oq_151ba25b), by rw [E.2.2.2]; exact (show (ce + 1) + 24 ≤ 601024 by omega), by rw [E.2.2.2]; exact (show (sl + 6) + 192 ≤ 7293034 by omega)⟩ (Nat.le_of_ble_eq_true rfl) (fun vv s11 hq => ?_) (fun ee s11 hq => ?_)
  rotate_left
  · obtain ⟨Is11, Fs11, JRLx_s11, e12, hv, hrs11, hps11⟩ := hq; cases hv
  obtain ⟨Is11, Fs11, JRLx_s11, e12, hv, hrs11, hps11⟩ := hq
  cases hv
  have Gs11 := fm_ts Gs8 Fs11 (by decide) (by decide +kernel)
  have JRLx_s11 : RLx s11 := RLx_fm Fs11 (by decide) JRLx_s8
  have JFEQ_s11 : FEQ s11 := FEQ_fm Fs11 (by decide) JFEQ_s8
  have ws11_0 : iI s11 0 = iI s8 0 := fm_iq Fs11 rfl
  have ws11_74 : iI s11 74 = iI s8 74 := fm_iq Fs11 rfl
  have ws11_9 : iI s11 9 = iI s8 9 := fm_iq Fs11 rfl
  have ws11_90 : iI s11 90 = iI s8 90 := fm_iq Fs11 rfl
  have ws11_12 : iI s11 12 = iI s8 12 := fm_iq Fs11 rfl
  have b13 := bi_89 Is11
  have wos11 : iO s11 = iO s8 := fm_o Fs11 (by decide)
  show WS k 1445 [(5, .int (Int32.ofInt e9)), (0, .ref q1), (1, .ref (A 0)), (2, .ref (A 179)), (3, .ref (A 517)), (4, .int (Int32.ofInt i))] [.int (Int32.ofInt e12)] (Wd A dT s11) ((ce + 1) + 24) ((sl + 6) + 192)
  refine z_store X (lv' := [(6, .int (Int32.ofInt e12)), (5, .int (Int32.ofInt e9)), (0, .ref q1), (1, .ref (A 0)), (2, .ref (A 179)), (3, .ref (A 517)), (4, .int (Int32.ofInt i))]) rfl (by decide) (fun _ h => h) (z_goto X (t := 1877) rfl rfl (w_widen (ce' := ce + 29) (sl' := sl + 222) (by first | exact Nat.le_add_right _ _ | exact Nat.add_le_add_left (by decide) _ | omega) (by first | exact Nat.le_add_right _ _ | exact Nat.add_le_add_left (by decide) _ | omega) ?_))
  exact WS_lv (lv := [(0, .ref q1), (1, .ref (A 0)), (2, .ref (A 179)), (3, .ref (A 517)), (4, .int (Int32.ofInt i))]) (List.forall_mem_cons.mpr ⟨(List.Mem.tail _ (List.Mem.tail _ (List.Mem.head _))), (List.forall_mem_cons.mpr ⟨(List.Mem.tail _ (List.Mem.tail _ (List.Mem.tail _ (List.Mem.head _)))), (List.forall_mem_cons.mpr ⟨(List.Mem.tail _ (List.Mem.tail _ (List.Mem.tail _ (List.Mem.tail _ (List.Mem.head _))))), (List.forall_mem_cons.mpr ⟨(List.Mem.tail _ (List.Mem.tail _ (List.Mem.tail _ (List.Mem.tail _ (List.Mem.tail _ (List.Mem.head _)))))), (List.forall_mem_cons.mpr ⟨(List.Mem.tail _ (List.Mem.tail _ (List.Mem.tail _ (List.Mem.tail _ (List.Mem.tail _ (List.Mem.tail _ (List.Mem.head _))))))), (fun q h => absurd h List.not_mem_nil)⟩)⟩)⟩)⟩)⟩) (hk A _ Is11 JRLx_s11 JFEQ_s11 (by first | exact hps11 | omega) (by first | exact oq_d7ce4408 ws11_12 ws8_12 p2 | omega) (by first | exact oq_5bcdc35f ws11_74 ws11_0 ws8_74 ws8_0 p3 | omega) (by first | exact oq_5bcdc35f ws11_90 ws11_9 ws8_90 ws8_9 p4 | omega))
theorem lc_34 (G : GX l s0 D tys a0 dT) (GR : RS0 s0) (SF : SF0 s0) (GT : TXs0 s0) {k : kx_T} (X : AX k 350 dT) (E : kL k = l ∧ kS0 k = s0 ∧ kD k = D ∧ kR k = room_1) {q1 L : Nat} {xs : Nat → Int32} (S : SX k q1 L xs) (hL : L ≤ 3072) (I : Bd s) (jR : RLx s) (jFEQ : FEQ s) (p1 : iI s 89 = 1) (p2 : iI s 12 ≤ 8) (p3 : iI s 0 = iI s 74) (p4 : iI s 9 = iI s 90) {i : Int} (hi : 0 ≤ i ∧ i + 6 ≤ (L : Int)) {ce sl : Nat} (hce : ce + 29 ≤ 601024) (hsl : sl + 222 ≤ 7293034) (hk : ∀ (A : Nat → Nat) (t : PS), Bd t → RLx t → FEQ t → iI t 89 = 1 → iI t 12 ≤ 8 → iI t 0 = iI t 74 → iI t 9 = iI t 90 → WS k 1877 [(0, .ref q1), (1, .ref (A 0)), (2, .ref (A 179)), (3, .ref (A 517)), (4, .int (Int32.ofInt i))] [] (Wd A dT t) (ce + 29) (sl + 222)) : WS k 1450 [(0, .ref q1), (1, .ref (A 0)), (2, .ref (A 179)), (3, .ref (A 517)), (4, .int (Int32.ofInt i))] [] (Wd A dT s) ce sl := by
  have F : Fm [1000, 1001, 73] [1460, 399] s s := fm_rf _ _ s
  have b1 := bi_0 I
  have b2 := bi_74 I
  have b3 := bi_9 I
  have b4 := bi_90 I
  have b5 := bi_12 I
  have b6 := bi_89 I
  refine z_aload_n X (x := A 0) rfl (List.Mem.tail _ (List.Mem.head _)) (z_aload_n X (x := q1) rfl (List.Mem.head _) (z_load X (x := i) rfl (List.Mem.tail _ (List.Mem.tail _ (List.Mem.tail _ (List.Mem.tail _ (List.Mem.head _))))) (z_const X rfl (z_add X rfl (z_sld X S hL rfl (show 0 ≤ (i + 1) ∧ (i + 1) < (L : Int) by first | exact sx_in hi (by decide) | omega) ?_)))))
  have sr7 : rng (sc xs (i + 1)) := sc_rng
  refine z_aload_n X (x := q1) rfl (List.Mem.head _) (z_load X (x := i) rfl (List.Mem.tail _ (List.Mem.tail _ (List.Mem.tail _ (List.Mem.tail _ (List.Mem.head _))))) (z_const X rfl (z_add X rfl (z_sld X S hL rfl (show 0 ≤ (i + 2) ∧ (i + 2) < (L : Int) by first | exact sx_in hi (by decide) | omega) ?_))))
  have sr8 : rng (sc xs (i + 2)) := sc_rng
  have N9 : ∀ e10 : Int, ((((sc xs (i + 2)) = 0) ∧ e10 = 0) ∨ (((sc xs (i + 2)) ≠ 0) ∧ e10 = 1)) → WS k 1471 [(0, .ref q1), (1, .ref (A 0)), (2, .ref (A 179)), (3, .ref (A 517)), (4, .int (Int32.ofInt i))] [.int (Int32.ofInt e10), .int (Int32.ofInt (sc xs (i + 1))), .ref (A 0)] (Wd A dT s) ce sl := by
    intro e10 he10
    have re10 : 0 ≤ e10 ∧ e10 ≤ 1 := by first | (clear he10; omega) | omega
    refine z_aload_n X (x := A 517) rfl (List.Mem.tail _ (List.Mem.tail _ (List.Mem.tail _ (List.Mem.head _)))) (z_callL X (rm := rmN 343) (As := [.ref (A 0), .int (Int32.ofInt (sc xs (i + 1))), .int (Int32.ofInt e10), .ref (A 517)]) (st := []) rfl (by decide) rfl (by rw [E.1, E.2.1, E.2.2.1]; exact lw_storm G I (by first | (clear he10; omega) | omega) (by first | (clear he10; omega) | omega)) ⟨by rw [E.2.2.2]; exact (show 9 + 1 ≤ 2048 by decide), by rw [E.2.2.2]; exact (show 8 + (5 + 11) + 168 ≤ 84000 by decide), by rw [E.2.2.2]; exact (show ce + 1 ≤ 601024 by first | exact rmo_1 hce (by decide) | exact rmo_2 hce (by decide) | omega), by rw [E.2.2.2]; exact (show sl + 6 ≤ 7293034 by first | exact rmo_1 hsl (by decide) | exact rmo_2 hsl (by decide) | omega)⟩ (Nat.le_of_ble_eq_true rfl) (fun vv A s11 hA2 hq => ?_) (fun ee A s11 hA2 hq => ?_))
    rotate_left
    · obtain ⟨Is11, Fs11, e12, hv, hrs11, hps11⟩ := hq; cases hv
    obtain ⟨Is11, Fs11, e12, hv, hrs11, hps11⟩ := hq
    cases hv
    rw [← hA2 0 (by decide)]
    rw [← hA2 179 (by decide)]
    rw [← hA2 517 (by decide)]
    have Gs11 := fm_tq F Fs11 rfl rfl
    have JRLx_s11 : RLx s11 := RLx_fm Fs11 (by decide) jR
    have JFEQ_s11 : FEQ s11 := FEQ_fm Fs11 (by decide) jFEQ
    have ws11_0 : iI s11 0 = iI s 0 := fm_iq Fs11 rfl
    have ws11_74 : iI s11 74 = iI s 74 := fm_iq Fs11 rfl
    have ws11_9 : iI s11 9 = iI s 9 := fm_iq Fs11 rfl
    have ws11_90 : iI s11 90 = iI s 90 := fm_iq Fs11 rfl
    have ws11_12 : iI s11 12 = iI s 12 := fm_iq Fs11 rfl
    have ws11_89 : iI s11 89 = iI s 89 := fm_iq Fs11 rfl
    show WS k 1475 [(0, .ref q1), (1, .ref (A 0)), (2, .ref (A 179)), (3, .ref (A 517)), (4, .int (Int32.ofInt i))] [.int (Int32.ofInt e12)] (Wd A dT s11) (ce + 1) (sl + 6)
    refine z_store X (lv' := [(5, .int (Int32.ofInt e12)), (0, .ref q1), (1, .ref (A 0)), (2, .ref (A 179)), (3, .ref (A 517)), (4, .int (Int32.ofInt i))]) rfl (by decide) (fun _ h => h) (z_aload_n X (x := A 179) rfl (List.Mem.tail _ (List.Mem.tail _ (List.Mem.tail _ (List.Mem.head _)))) (z_aload_n X (x := q1) rfl (List.Mem.tail _ (List.Mem.head _)) (z_load X (x := i) rfl (List.Mem.tail _ (List.Mem.tail _ (List.Mem.tail _ (List.Mem.tail _ (List.Mem.tail _ (List.Mem.head _)))))) (z_const X rfl (z_add X rfl (z_sld X S hL rfl (show 0 ≤ (i + 1) ∧ (i + 1) < (L : Int) by first | exact sx_in hi (by decide) | omega) ?_))))))
    have sr13 : rng (sc xs (i + 1)) := sc_rng
    refine z_aload_n X (x := q1) rfl (List.Mem.tail _ (List.Mem.head _)) (z_load X (x := i) rfl (List.Mem.tail _ (List.Mem.tail _ (List.Mem.tail _ (List.Mem.tail _ (List.Mem.tail _ (List.Mem.head _)))))) (z_const X rfl (z_add X rfl (z_sld X S hL rfl (show 0 ≤ (i + 2) ∧ (i + 2) < (L : Int) by first | exact sx_in hi (by decide) | omega) ?_))))
    have sr14 : rng (sc xs (i + 2)) := sc_rng
    have N15 : ∀ e16 : Int, ((((sc xs (i + 2)) = 0) ∧ e16 = 0) ∨ (((sc xs (i + 2)) ≠ 0) ∧ e16 = 1)) → WS k 1498 [(5, .int (Int32.ofInt e12)), (0, .ref q1), (1, .ref (A 0)), (2, .ref (A 179)), (3, .ref (A 517)), (4, .int (Int32.ofInt i))] [.int (Int32.ofInt e16), .int (Int32.ofInt (sc xs (i + 1))), .ref (A 179)] (Wd A dT s11) (ce + 1) (sl + 6) := by
      intro e16 he16
      have re16 : 0 ≤ e16 ∧ e16 ≤ 1 := by first | (clear he16 he10; omega) | (clear he10; omega) | omega
      refine z_callV X 179 (rm := rmN 279) (As := [.int (Int32.ofInt (sc xs (i + 1))), .int (Int32.ofInt e16)]) (st := []) rfl rfl (by decide) rfl (by rw [E.1, E.2.1, E.2.2.1]; exact k_storm G Is11 (by first | exact ⟨sr13.1, sr13.2⟩ | omega) (by first | exact oq_31e518ae re16.2 re16.1 | omega)) ⟨by rw [E.2.2.2]; exact (show 7 + 1 ≤ 2048 from oq_4e6106eb), by rw [E.2.2.2]; exact (show 8 + (4 + 11) + 122 ≤ 84000 from oq_ebbf79c1), by rw [E.2.2.2]; exact (show (ce + 1) + 0 ≤ 601024 by first | (clear he16 he10; omega) | (clear he10; omega) | omega), by rw [E.2.2.2]; exact (show (sl + 6) + 0 ≤ 7293034 by first | (clear he16 he10; omega) | (clear he10; omega) | omega)⟩ (Nat.le_of_ble_eq_true rfl) (fun vv s17 hq => ?_) (fun ee s17 hq => ?_)
      rotate_left
      · obtain ⟨Is17, Fs17, e18, hv, hrs17, hps17⟩ := hq; cases hv
      obtain ⟨Is17, Fs17, e18, hv, hrs17, hps17⟩ := hq
      cases hv
      have Gs17 := fm_tq Gs11 Fs17 rfl rfl
      have JRLx_s17 : RLx s17 := RLx_fm Fs17 (by decide) JRLx_s11
      have JFEQ_s17 : FEQ s17 := FEQ_fm Fs17 (by decide) JFEQ_s11
      have ws17_0 : iI s17 0 = iI s11 0 := fm_iq Fs17 rfl
      have ws17_74 : iI s17 74 = iI s11 74 := fm_iq Fs17 rfl
      have ws17_9 : iI s17 9 = iI s11 9 := fm_iq Fs17 rfl
      have ws17_90 : iI s17 90 = iI s11 90 := fm_iq Fs17 rfl
      have ws17_12 : iI s17 12 = iI s11 12 := fm_iq Fs17 rfl
      have ws17_89 : iI s17 89 = iI s11 89 := fm_iq Fs17 rfl
      have wos17 : iO s17 = iO s11 := fm_o Fs17 (by decide)
      show WS k 1501 [(5, .int (Int32.ofInt e12)), (0, .ref q1), (1, .ref (A 0)), (2, .ref (A 179)), (3, .ref (A 517)), (4, .int (Int32.ofInt i))] [.int (Int32.ofInt e18)] (Wd A dT s17) (ce + 1) (sl + 6)
      refine z_store X (lv' := [(6, .int (Int32.ofInt e18)), (5, .int (Int32.ofInt e12)), (0, .ref q1), (1, .ref (A 0)), (2, .ref (A 179)), (3, .ref (A 517)), (4, .int (Int32.ofInt i))]) rfl (by decide) (fun _ h => h) (z_goto X (t := 1877) rfl rfl (w_widen (ce' := ce + 29) (sl' := sl + 222) (by first | exact Nat.le_add_right _ _ | exact Nat.add_le_add_left (by decide) _ | omega) (by first | exact Nat.le_add_right _ _ | exact Nat.add_le_add_left (by decide) _ | omega) ?_))
      exact WS_lv (lv := [(0, .ref q1), (1, .ref (A 0)), (2, .ref (A 179)), (3, .ref (A 517)), (4, .int (Int32.ofInt i))]) (List.forall_mem_cons.mpr ⟨(List.Mem.tail _ (List.Mem.tail _ (List.Mem.head _))), (List.forall_mem_cons.mpr ⟨(List.Mem.tail _ (List.Mem.tail _ (List.Mem.tail _ (List.Mem.head _)))), (List.forall_mem_cons.mpr ⟨(List.Mem.tail _ (List.Mem.tail _ (List.Mem.tail _ (List.Mem.tail _ (List.Mem.head _))))), (List.forall_mem_cons.mpr ⟨(List.Mem.tail _ (List.Mem.tail _ (List.Mem.tail _ (List.Mem.tail _ (List.Mem.tail _ (List.Mem.head _)))))), (List.forall_mem_cons.mpr ⟨(List.Mem.tail _ (List.Mem.tail _ (List.Mem.tail _ (List.Mem.tail _ (List.Mem.tail _ (List.Mem.tail _ (List.Mem.head _))))))), (fun q h => absurd h List.not_mem_nil)⟩)⟩)⟩)⟩)⟩) (hk A _ Is17 JRLx_s17 JFEQ_s17 (by first | exact oq_f34933ba ws17_89 ws11_89 p1 b6.1 | omega) (by first | exact oq_d7ce4408 ws17_12 ws11_12 p2 | omega) (by first | exact oq_5bcdc35f ws17_74 ws17_0 ws11_74 ws11_0 p3 | omega) (by first | exact oq_5bcdc35f ws17_90 ws17_9 ws11_90 ws11_9 p4 | omega))
    refine z_if_eq X (t := 1497) rfl rfl ⟨by first | exact sr14.1 | omega, by first | exact sr14.2 | omega⟩ (fun g19 => ?_) (fun g19 => ?_)
    ·
      exact z_const X rfl (N15 _ (Or.inl ⟨g19, rfl⟩))
    ·
      exact z_const X rfl (z_goto X (t := 1498) rfl rfl (N15 _ (Or.inr (⟨g19, rfl⟩))))
  refine z_if_eq X (t := 1470) rfl rfl ⟨by first | exact sr8.1 | omega, by first | exact sr8.2 | omega⟩ (fun g20 => ?_) (fun g20 => ?_)
  ·
    exact z_const X rfl (N9 _ (Or.inl ⟨g20, rfl⟩))
  ·
    exact z_const X rfl (z_goto X (t := 1471) rfl rfl (N9 _ (Or.inr (⟨g20, rfl⟩))))
theorem lc_35 (G : GX l s0 D tys a0 dT) (GR : RS0 s0) (SF : SF0 s0) (GT : TXs0 s0) {k : kx_T} (X : AX k 350 dT) (E : kL k = l ∧ kS0 k = s0 ∧ kD k = D ∧ kR k = room_1) {q1 L : Nat} {xs : Nat → Int32} (S : SX k q1 L xs) (hL : L ≤ 3072) (I : Bd s) (jR : RLx s) (jFEQ : FEQ s) (p1 : iI s 89 = 1) (p2 : iI s 12 ≤ 8) (p3 : iI s 0 = iI s 74) (p4 : iI s 9 = iI s 90) {i : Int} (hi : 0 ≤ i ∧ i + 6 ≤ (L : Int)) {ce sl : Nat} (hce : ce + 29 ≤ 601024) (hsl : sl + 222 ≤ 7293034) (hk : ∀ (A : Nat → Nat) (t : PS), Bd t → RLx t → FEQ t → iI t 89 = 1 → iI t 12 ≤ 8 → iI t 0 = iI t 74 → iI t 9 = iI t 90 → WS k 1877 [(0, .ref q1), (1, .ref (A 0)), (2, .ref (A 179)), (3, .ref (A 517)), (4, .int (Int32.ofInt i))] [] (Wd A dT t) (ce + 29) (sl + 222)) : WS k 1506 [(0, .ref q1), (1, .ref (A 0)), (2, .ref (A 179)), (3, .ref (A 517)), (4, .int (Int32.ofInt i))] [] (Wd A dT s) ce sl := by
  have F : Fm [43, 44, 46, 47, 49, 50, 52, 53, 55, 56, 58, 59, 61, 62, 64, 65, 67, 68, 42, 39, 40, 41, 73, 105, 106, 77, 75, 78, 79, 80, 81] [57, 58, 67, 62, 77, 78, 79, 73, 87, 80, 81, 82, 83, 84, 85, 86, 96, 89, 90, 91, 92, 93, 94, 95, 105, 98, 99, 100, 101, 102, 103, 104, 114, 107, 108, 109, 110, 111, 112, 113, 123, 116, 117, 118, 119, 120, 121, 122, 132, 125, 126, 127, 128, 129, 130, 131, 141, 134, 135, 136, 137, 138, 139, 140, 150, 143, 144, 145, 146, 147, 148, 149, 20, 76, 74, 75, 72, 1059, 1060, 1061, 1063, 1460, 401, 400, 403, 404, 232, 402, 405, 406, 407, 408, 409, 410, 411, 412, 413, 414, 415, 416, 202, 204, 205, 206, 207, 208, 209, 210, 211, 212, 213, 214, 215, 216, 217, 218, 219, 220, 221, 222, 223, 224, 225, 226, 227, 203, 161, 230] s s := fm_rf _ _ s
  have b1 := bi_0 I
  have b2 := bi_74 I
  have b3 := bi_9 I
  have b4 := bi_90 I
  have b5 := bi_12 I
  have b6 := bi_89 I
  refine z_aload_n X (x := A 0) rfl (List.Mem.tail _ (List.Mem.head _)) (z_aload_n X (x := q1) rfl (List.Mem.head _) (z_load X (x := i) rfl (List.Mem.tail _ (List.Mem.tail _ (List.Mem.tail _ (List.Mem.tail _ (List.Mem.head _))))) (z_const X rfl (z_add X rfl (z_sld X S hL rfl (show 0 ≤ (i + 1) ∧ (i + 1) < (L : Int) by first | exact sx_in hi (by decide) | omega) ?_)))))
  have sr7 : rng (sc xs (i + 1)) := sc_rng
  refine z_aload_n X (x := q1) rfl (List.Mem.head _) (z_load X (x := i) rfl (List.Mem.tail _ (List.Mem.tail _ (List.Mem.tail _ (List.Mem.tail _ (List.Mem.head _))))) (z_const X rfl (z_add X rfl (z_sld X S hL rfl (show 0 ≤ (i + 2) ∧ (i + 2) < (L : Int) by first | exact sx_in hi (by decide) | omega) ?_))))
  have sr8 : rng (sc xs (i + 2)) := sc_rng
  refine z_aload_n X (x := q1) rfl (List.Mem.head _) (z_load X (x := i) rfl (List.Mem.tail _ (List.Mem.tail _ (List.Mem.tail _ (List.Mem.tail _ (List.Mem.head _))))) (z_const X rfl (z_add X rfl (z_sld X S hL rfl (show 0 ≤ (i + 3) ∧ (i + 3) < (L : Int) by first | exact sx_in hi (by decide) | omega) ?_))))
  have sr9 : rng (sc xs (i + 3)) := sc_rng
  refine z_aload_n X (x := q1) rfl (List.Mem.head _) (z_load X (x := i) rfl (List.Mem.tail _ (List.Mem.tail _ (List.Mem.tail _ (List.Mem.tail _ (List.Mem.head _))))) (z_const X rfl (z_add X rfl (z_sld X S hL rfl (show 0 ≤ (i + 4) ∧ (i + 4) < (L : Int) by first | exact sx_in hi (by decide) | omega) ?_))))
  have sr10 : rng (sc xs (i + 4)) := sc_rng
  refine z_aload_n X (x := A 517) rfl (List.Mem.tail _ (List.Mem.tail _ (List.Mem.tail _ (List.Mem.head _)))) (z_callL X (rm := rmN 344) (As := [.ref (A 0), .int (Int32.ofInt (sc xs (i + 1))), .int (Int32.ofInt (sc xs (i + 2))), .int (Int32.ofInt (sc xs (i + 3))), .int (Int32.ofInt (sc xs (i + 4))), .ref (A 517)]) (st := []) rfl (by decide) rfl (by rw [E.1, E.2.1, E.2.2.1]; exact lw_mends G GR I (by omega) (by omega) (by omega) (by omega)) ⟨by rw [E.2.2.2]; exact (show 55 + 1 ≤ 2048 by decide), by rw [E.2.2.2]; exact (show 8 + (7 + 11) + 2372 ≤ 84000 by decide), by rw [E.2.2.2]; exact (show ce + 4 ≤ 601024 by first | exact rmo_1 hce (by decide) | exact rmo_2 hce (by decide) | omega), by rw [E.2.2.2]; exact (show sl + 24 ≤ 7293034 by first | exact rmo_1 hsl (by decide) | exact rmo_2 hsl (by decide) | omega)⟩ (Nat.le_of_ble_eq_true rfl) (fun vv A s11 hA2 hq => ?_) (fun ee A s11 hA2 hq => ?_))
  rotate_left
  · obtain ⟨Is11, Fs11, e12, hv, hrs11, hps11⟩ := hq; cases hv
  obtain ⟨Is11, Fs11, e12, hv, hrs11, hps11⟩ := hq
  cases hv
  rw [← hA2 0 (by decide)]
  rw [← hA2 179 (by decide)]
  rw [← hA2 517 (by decide)]
  have Gs11 := fm_ts F Fs11 (by decide) (by decide +kernel)
  have JRLx_s11 : RLx s11 := RLx_fm Fs11 (by decide) jR
  have JFEQ_s11 : FEQ s11 := FEQ_fm Fs11 (by decide) jFEQ
  have ws11_0 : iI s11 0 = iI s 0 := fm_iq Fs11 rfl
  have ws11_74 : iI s11 74 = iI s 74 := fm_iq Fs11 rfl
  have ws11_9 : iI s11 9 = iI s 9 := fm_iq Fs11 rfl
  have ws11_90 : iI s11 90 = iI s 90 := fm_iq Fs11 rfl
  have ws11_12 : iI s11 12 = iI s 12 := fm_iq Fs11 rfl
  have ws11_89 : iI s11 89 = iI s 89 := fm_iq Fs11 rfl
  show WS k 1535 [(0, .ref q1), (1, .ref (A 0)), (2, .ref (A 179)), (3, .ref (A 517)), (4, .int (Int32.ofInt i))] [.int (Int32.ofInt e12)] (Wd A dT s11) (ce + 4) (sl + 24)
  refine z_store X (lv' := [(5, .int (Int32.ofInt e12)), (0, .ref q1), (1, .ref (A 0)), (2, .ref (A 179)), (3, .ref (A 517)), (4, .int (Int32.ofInt i))]) rfl (by decide) (fun _ h => h) (z_aload_n X (x := A 179) rfl (List.Mem.tail _ (List.Mem.tail _ (List.Mem.tail _ (List.Mem.head _)))) (z_aload_n X (x := q1) rfl (List.Mem.tail _ (List.Mem.head _)) (z_load X (x := i) rfl (List.Mem.tail _ (List.Mem.tail _ (List.Mem.tail _ (List.Mem.tail _ (List.Mem.tail _ (List.Mem.head _)))))) (z_const X rfl (z_add X rfl (z_sld X S hL rfl (show 0 ≤ (i + 1) ∧ (i + 1) < (L : Int) by first | exact sx_in hi (by decide) | omega) ?_))))))
  have sr13 : rng (sc xs (i + 1)) := sc_rng
  refine z_aload_n X (x := q1) rfl (List.Mem.tail _ (List.Mem.head _)) (z_load X (x := i) rfl (List.Mem.tail _ (List.Mem.tail _ (List.Mem.tail _ (List.Mem.tail _ (List.Mem.tail _ (List.Mem.head _)))))) (z_const X rfl (z_add X rfl (z_sld X S hL rfl (show 0 ≤ (i + 2) ∧ (i + 2) < (L : Int) by first | exact sx_in hi (by decide) | omega) ?_))))
  have sr14 : rng (sc xs (i + 2)) := sc_rng
  refine z_aload_n X (x := q1) rfl (List.Mem.tail _ (List.Mem.head _)) (z_load X (x := i) rfl (List.Mem.tail _ (List.Mem.tail _ (List.Mem.tail _ (List.Mem.tail _ (List.Mem.tail _ (List.Mem.head _)))))) (z_const X rfl (z_add X rfl (z_sld X S hL rfl (show 0 ≤ (i + 3) ∧ (i + 3) < (L : Int) by first | exact sx_in hi (by decide) | omega) ?_))))
  have sr15 : rng (sc xs (i + 3)) := sc_rng
  refine z_aload_n X (x := q1) rfl (List.Mem.tail _ (List.Mem.head _)) (z_load X (x := i) rfl (List.Mem.tail _ (List.Mem.tail _ (List.Mem.tail _ (List.Mem.tail _ (List.Mem.tail _ (List.Mem.head _)))))) (z_const X rfl (z_add X rfl (z_sld X S hL rfl (show 0 ≤ (i + 4) ∧ (i + 4) < (L : Int) by first | exact sx_in hi (by decide) | omega) ?_))))
  have sr16 : rng (sc xs (i + 4)) := sc_rng
  refine z_callV X 179 (rm := rmN 286) (As := [.int (Int32.ofInt (sc xs (i + 1))), .int (Int32.ofInt (sc xs (i + 2))), .int (Int32.ofInt (sc xs (i + 3))), .int (Int32.ofInt (sc xs (i + 4)))]) (st := []) rfl rfl (by decide) rfl (by rw [E.1, E.2.1, E.2.2.1]; exact k_mends G Is11 JRLx_s11 (by first | exact ⟨sr13.1, sr13.2⟩ | omega) (by first | exact ⟨sr14.1, sr14.2⟩ | omega) (by first | exact ⟨sr15.1, sr15.2⟩ | omega) (by first | exact ⟨sr16.1, sr16.2⟩ | omega)) ⟨by rw [E.2.2.2]; exact (show 73 + 1 ≤ 2048 from oq_c67cc45d), by rw [E.2.2.2]; exact (show 8 + (7 + 11) + 3227 ≤ 84000 from oq_f40e0be7), by rw [E.2.2.2]; exact (show (ce + 4) + 0 ≤ 601024 by omega), by rw [E.2.2.2]; exact (show (sl + 24) + 0 ≤ 7293034 by omega)⟩ (Nat.le_of_ble_eq_true rfl) (fun vv s17 hq => ?_) (fun ee s17 hq => ?_)
  rotate_left
  · obtain ⟨Is17, Fs17, JRLx_s17, e18, hv, hrs17, hps17⟩ := hq; cases hv
  obtain ⟨Is17, Fs17, JRLx_s17, e18, hv, hrs17, hps17⟩ := hq
  cases hv
  have Gs17 := fm_tq Gs11 Fs17 rfl rfl
  have JRLx_s17 : RLx s17 := RLx_fm Fs17 (by decide) JRLx_s11
  have JFEQ_s17 : FEQ s17 := FEQ_fm Fs17 (by decide) JFEQ_s11
  have ws17_0 : iI s17 0 = iI s11 0 := fm_iq Fs17 rfl
  have ws17_74 : iI s17 74 = iI s11 74 := fm_iq Fs17 rfl
  have ws17_9 : iI s17 9 = iI s11 9 := fm_iq Fs17 rfl
  have ws17_90 : iI s17 90 = iI s11 90 := fm_iq Fs17 rfl
  have ws17_12 : iI s17 12 = iI s11 12 := fm_iq Fs17 rfl
  have ws17_89 : iI s17 89 = iI s11 89 := fm_iq Fs17 rfl
  have wos17 : iO s17 = iO s11 := fm_o Fs17 (by decide)
  show WS k 1565 [(5, .int (Int32.ofInt e12)), (0, .ref q1), (1, .ref (A 0)), (2, .ref (A 179)), (3, .ref (A 517)), (4, .int (Int32.ofInt i))] [.int (Int32.ofInt e18)] (Wd A dT s17) (ce + 4) (sl + 24)
  refine z_store X (lv' := [(6, .int (Int32.ofInt e18)), (5, .int (Int32.ofInt e12)), (0, .ref q1), (1, .ref (A 0)), (2, .ref (A 179)), (3, .ref (A 517)), (4, .int (Int32.ofInt i))]) rfl (by decide) (fun _ h => h) (z_goto X (t := 1877) rfl rfl (w_widen (ce' := ce + 29) (sl' := sl + 222) (by first | exact Nat.le_add_right _ _ | exact Nat.add_le_add_left (by decide) _ | omega) (by first | exact Nat.le_add_right _ _ | exact Nat.add_le_add_left (by decide) _ | omega) ?_))
  exact WS_lv (lv := [(0, .ref q1), (1, .ref (A 0)), (2, .ref (A 179)), (3, .ref (A 517)), (4, .int (Int32.ofInt i))]) (List.forall_mem_cons.mpr ⟨(List.Mem.tail _ (List.Mem.tail _ (List.Mem.head _))), (List.forall_mem_cons.mpr ⟨(List.Mem.tail _ (List.Mem.tail _ (List.Mem.tail _ (List.Mem.head _)))), (List.forall_mem_cons.mpr ⟨(List.Mem.tail _ (List.Mem.tail _ (List.Mem.tail _ (List.Mem.tail _ (List.Mem.head _))))), (List.forall_mem_cons.mpr ⟨(List.Mem.tail _ (List.Mem.tail _ (List.Mem.tail _ (List.Mem.tail _ (List.Mem.tail _ (List.Mem.head _)))))), (List.forall_mem_cons.mpr ⟨(List.Mem.tail _ (List.Mem.tail _ (List.Mem.tail _ (List.Mem.tail _ (List.Mem.tail _ (List.Mem.tail _ (List.Mem.head _))))))), (fun q h => absurd h List.not_mem_nil)⟩)⟩)⟩)⟩)⟩) (hk A _ Is17 JRLx_s17 JFEQ_s17 (by first | exact oq_f34933ba ws17_89 ws11_89 p1 b6.1 | omega) (by first | exact oq_d7ce4408 ws17_12 ws11_12 p2 | omega) (by first | exact oq_5bcdc35f ws17_74 ws17_0 ws11_74 ws11_0 p3 | omega) (by first | exact oq_5bcdc35f ws17_90 ws17_9 ws11_90 ws11_9 p4 | omega))
theorem lc_36 (G : GX l s0 D tys a0 dT) (GR : RS0 s0) (SF : SF0 s0) (GT : TXs0 s0) {k : kx_T} (X : AX k 350 dT) (E : kL k = l ∧ kS0 k = s0 ∧ kD k = D ∧ kR k = room_1) {q1 L : Nat} {xs : Nat → Int32} (S : SX k q1 L xs) (hL : L ≤ 3072) (I : Bd s) (jR : RLx s) (jFEQ : FEQ s) (p1 : iI s 89 = 1) (p2 : iI s 12 ≤ 8) (p3 : iI s 0 = iI s 74) (p4 : iI s 9 = iI s 90) {i : Int} (hi : 0 ≤ i ∧ i + 6 ≤ (L : Int)) {ce sl : Nat} (hce : ce + 29 ≤ 601024) (hsl : sl + 222 ≤ 7293034) (hk : ∀ (A : Nat → Nat) (t : PS), Bd t → RLx t → FEQ t → iI t 89 = 1 → iI t 12 ≤ 8 → iI t 0 = iI t 74 → iI t 9 = iI t 90 → WS k 1877 [(0, .ref q1), (1, .ref (A 0)), (2, .ref (A 179)), (3, .ref (A 517)), (4, .int (Int32.ofInt i))] [] (Wd A dT t) (ce + 29) (sl + 222)) : WS k 1570 [(0, .ref q1), (1, .ref (A 0)), (2, .ref (A 179)), (3, .ref (A 517)), (4, .int (Int32.ofInt i))] [] (Wd A dT s) ce sl := by
  have F : Fm [22, 23, 70, 73, 107, 77, 75, 78, 79, 80, 81] [33, 26, 27, 28, 29, 30, 31, 32, 152, 153, 154, 1460, 202, 204, 205, 206, 207, 208, 209, 210, 211, 212, 213, 214, 215, 216, 217, 218, 219, 220, 221, 222, 223, 224, 225, 226, 227, 203, 161, 230, 417, 418, 419, 420, 421, 422, 423, 424, 425, 426, 427, 428, 429, 430, 431, 432, 433, 434, 435, 436, 437, 438, 439, 440, 441, 442, 443, 444, 445, 446, 447, 448, 449, 450, 451, 452, 453, 454, 455, 456, 457, 459] s s := fm_rf _ _ s
  have b1 := bi_0 I
  have b2 := bi_74 I
  have b3 := bi_9 I
  have b4 := bi_90 I
  have b5 := bi_12 I
  have b6 := bi_89 I
  refine z_aload_n X (x := A 0) rfl (List.Mem.tail _ (List.Mem.head _)) (z_aload_n X (x := q1) rfl (List.Mem.head _) (z_load X (x := i) rfl (List.Mem.tail _ (List.Mem.tail _ (List.Mem.tail _ (List.Mem.tail _ (List.Mem.head _))))) (z_const X rfl (z_add X rfl (z_sld X S hL rfl (show 0 ≤ (i + 1) ∧ (i + 1) < (L : Int) by first | exact sx_in hi (by decide) | omega) ?_)))))
  have sr7 : rng (sc xs (i + 1)) := sc_rng
  refine z_aload_n X (x := q1) rfl (List.Mem.head _) (z_load X (x := i) rfl (List.Mem.tail _ (List.Mem.tail _ (List.Mem.tail _ (List.Mem.tail _ (List.Mem.head _))))) (z_const X rfl (z_add X rfl (z_sld X S hL rfl (show 0 ≤ (i + 2) ∧ (i + 2) < (L : Int) by first | exact sx_in hi (by decide) | omega) ?_))))
  have sr8 : rng (sc xs (i + 2)) := sc_rng
  refine z_aload_n X (x := q1) rfl (List.Mem.head _) (z_load X (x := i) rfl (List.Mem.tail _ (List.Mem.tail _ (List.Mem.tail _ (List.Mem.tail _ (List.Mem.head _))))) (z_const X rfl (z_add X rfl (z_sld X S hL rfl (show 0 ≤ (i + 3) ∧ (i + 3) < (L : Int) by first | exact sx_in hi (by decide) | omega) ?_))))
  have sr9 : rng (sc xs (i + 3)) := sc_rng
  refine z_aload_n X (x := q1) rfl (List.Mem.head _) (z_load X (x := i) rfl (List.Mem.tail _ (List.Mem.tail _ (List.Mem.tail _ (List.Mem.tail _ (List.Mem.head _))))) (z_const X rfl (z_add X rfl (z_sld X S hL rfl (show 0 ≤ (i + 4) ∧ (i + 4) < (L : Int) by first | exact sx_in hi (by decide) | omega) ?_))))
  have sr10 : rng (sc xs (i + 4)) := sc_rng
  have N11 : ∀ e12 : Int, ((((sc xs (i + 4)) = 0) ∧ e12 = 0) ∨ (((sc xs (i + 4)) ≠ 0) ∧ e12 = 1)) → WS k 1603 [(0, .ref q1), (1, .ref (A 0)), (2, .ref (A 179)), (3, .ref (A 517)), (4, .int (Int32.ofInt i))] [.int (Int32.ofInt e12), .int (Int32.ofInt (sc xs (i + 3))), .int (Int32.ofInt (sc xs (i + 2))), .int (Int32.ofInt (sc xs (i + 1))), .ref (A 0)] (Wd A dT s) ce sl := by
    intro e12 he12
    have re12 : 0 ≤ e12 ∧ e12 ≤ 1 := by first | (clear he12; omega) | omega
    refine z_aload_n X (x := A 517) rfl (List.Mem.tail _ (List.Mem.tail _ (List.Mem.tail _ (List.Mem.head _)))) (z_callL X (rm := rmN 345) (As := [.ref (A 0), .int (Int32.ofInt (sc xs (i + 1))), .int (Int32.ofInt (sc xs (i + 2))), .int (Int32.ofInt (sc xs (i + 3))), .int (Int32.ofInt e12), .ref (A 517)]) (st := []) rfl (by decide) rfl (by rw [E.1, E.2.1, E.2.2.1]; exact lw_did G I (by first | (clear he12; omega) | omega) (by first | (clear he12; omega) | omega) (by first | (clear he12; omega) | omega) (by first | (clear he12; omega) | omega)) ⟨by rw [E.2.2.2]; exact (show 11 + 1 ≤ 2048 by decide), by rw [E.2.2.2]; exact (show 8 + (7 + 11) + 229 ≤ 84000 by decide), by rw [E.2.2.2]; exact (show ce + 3 ≤ 601024 by first | exact rmo_1 hce (by decide) | exact rmo_2 hce (by decide) | omega), by rw [E.2.2.2]; exact (show sl + 18 ≤ 7293034 by first | exact rmo_1 hsl (by decide) | exact rmo_2 hsl (by decide) | omega)⟩ (Nat.le_of_ble_eq_true rfl) (fun vv A s13 hA2 hq => ?_) (fun ee A s13 hA2 hq => ?_))
    rotate_left
    · obtain ⟨Is13, Fs13, e14, hv, hrs13, hps13⟩ := hq; cases hv
    obtain ⟨Is13, Fs13, e14, hv, hrs13, hps13⟩ := hq
    cases hv
    rw [← hA2 0 (by decide)]
    rw [← hA2 179 (by decide)]
    rw [← hA2 517 (by decide)]
    have Gs13 := fm_tq F Fs13 rfl rfl
    have JRLx_s13 : RLx s13 := RLx_fm Fs13 (by decide) jR
    have JFEQ_s13 : FEQ s13 := FEQ_fm Fs13 (by decide) jFEQ
    have ws13_0 : iI s13 0 = iI s 0 := fm_iq Fs13 rfl
    have ws13_74 : iI s13 74 = iI s 74 := fm_iq Fs13 rfl
    have ws13_9 : iI s13 9 = iI s 9 := fm_iq Fs13 rfl
    have ws13_90 : iI s13 90 = iI s 90 := fm_iq Fs13 rfl
    have ws13_12 : iI s13 12 = iI s 12 := fm_iq Fs13 rfl
    have ws13_89 : iI s13 89 = iI s 89 := fm_iq Fs13 rfl
    show WS k 1607 [(0, .ref q1), (1, .ref (A 0)), (2, .ref (A 179)), (3, .ref (A 517)), (4, .int (Int32.ofInt i))] [.int (Int32.ofInt e14)] (Wd A dT s13) (ce + 3) (sl + 18)
    refine z_store X (lv' := [(5, .int (Int32.ofInt e14)), (0, .ref q1), (1, .ref (A 0)), (2, .ref (A 179)), (3, .ref (A 517)), (4, .int (Int32.ofInt i))]) rfl (by decide) (fun _ h => h) (z_aload_n X (x := A 179) rfl (List.Mem.tail _ (List.Mem.tail _ (List.Mem.tail _ (List.Mem.head _)))) (z_aload_n X (x := q1) rfl (List.Mem.tail _ (List.Mem.head _)) (z_load X (x := i) rfl (List.Mem.tail _ (List.Mem.tail _ (List.Mem.tail _ (List.Mem.tail _ (List.Mem.tail _ (List.Mem.head _)))))) (z_const X rfl (z_add X rfl (z_sld X S hL rfl (show 0 ≤ (i + 1) ∧ (i + 1) < (L : Int) by first | exact sx_in hi (by decide) | omega) ?_))))))
    have sr15 : rng (sc xs (i + 1)) := sc_rng
    refine z_aload_n X (x := q1) rfl (List.Mem.tail _ (List.Mem.head _)) (z_load X (x := i) rfl (List.Mem.tail _ (List.Mem.tail _ (List.Mem.tail _ (List.Mem.tail _ (List.Mem.tail _ (List.Mem.head _)))))) (z_const X rfl (z_add X rfl (z_sld X S hL rfl (show 0 ≤ (i + 2) ∧ (i + 2) < (L : Int) by first | exact sx_in hi (by decide) | omega) ?_))))
    have sr16 : rng (sc xs (i + 2)) := sc_rng
    refine z_aload_n X (x := q1) rfl (List.Mem.tail _ (List.Mem.head _)) (z_load X (x := i) rfl (List.Mem.tail _ (List.Mem.tail _ (List.Mem.tail _ (List.Mem.tail _ (List.Mem.tail _ (List.Mem.head _)))))) (z_const X rfl (z_add X rfl (z_sld X S hL rfl (show 0 ≤ (i + 3) ∧ (i + 3) < (L : Int) by first | exact sx_in hi (by decide) | omega) ?_))))
    have sr17 : rng (sc xs (i + 3)) := sc_rng
    refine z_aload_n X (x := q1) rfl (List.Mem.tail _ (List.Mem.head _)) (z_load X (x := i) rfl (List.Mem.tail _ (List.Mem.tail _ (List.Mem.tail _ (List.Mem.tail _ (List.Mem.tail _ (List.Mem.head _)))))) (z_const X rfl (z_add X rfl (z_sld X S hL rfl (show 0 ≤ (i + 4) ∧ (i + 4) < (L : Int) by first | exact sx_in hi (by decide) | omega) ?_))))
    have sr18 : rng (sc xs (i + 4)) := sc_rng
    have N19 : ∀ e20 : Int, ((((sc xs (i + 4)) = 0) ∧ e20 = 0) ∨ (((sc xs (i + 4)) ≠ 0) ∧ e20 = 1)) → WS k 1642 [(5, .int (Int32.ofInt e14)), (0, .ref q1), (1, .ref (A 0)), (2, .ref (A 179)), (3, .ref (A 517)), (4, .int (Int32.ofInt i))] [.int (Int32.ofInt e20), .int (Int32.ofInt (sc xs (i + 3))), .int (Int32.ofInt (sc xs (i + 2))), .int (Int32.ofInt (sc xs (i + 1))), .ref (A 179)] (Wd A dT s13) (ce + 3) (sl + 18) := by
      intro e20 he20
      have re20 : 0 ≤ e20 ∧ e20 ≤ 1 := by first | (clear he20 he12; omega) | (clear he12; omega) | omega
      refine z_callV X 179 (rm := rmN 287) (As := [.int (Int32.ofInt (sc xs (i + 1))), .int (Int32.ofInt (sc xs (i + 2))), .int (Int32.ofInt (sc xs (i + 3))), .int (Int32.ofInt e20)]) (st := []) rfl rfl (by decide) rfl (by rw [E.1, E.2.1, E.2.2.1]; exact k_did G Is13 JRLx_s13 (by first | exact ⟨sr15.1, sr15.2⟩ | omega) (by first | exact ⟨sr16.1, sr16.2⟩ | omega) (by first | exact ⟨sr17.1, sr17.2⟩ | omega) (by first | exact oq_31e518ae re20.2 re20.1 | omega)) ⟨by rw [E.2.2.2]; exact (show 10 + 1 ≤ 2048 from oq_5655e407), by rw [E.2.2.2]; exact (show 8 + (6 + 11) + 189 ≤ 84000 from oq_f8649f31), by rw [E.2.2.2]; exact (show (ce + 3) + 0 ≤ 601024 by first | (clear he20 he12; omega) | (clear he12; omega) | omega), by rw [E.2.2.2]; exact (show (sl + 18) + 0 ≤ 7293034 by first | (clear he20 he12; omega) | (clear he12; omega) | omega)⟩ (Nat.le_of_ble_eq_true rfl) (fun vv s21 hq => ?_) (fun ee s21 hq => ?_)
      rotate_left
      · obtain ⟨Is21, Fs21, JRLx_s21, e22, hv, hrs21, hps21⟩ := hq; cases hv
      obtain ⟨Is21, Fs21, JRLx_s21, e22, hv, hrs21, hps21⟩ := hq
      cases hv
      have Gs21 := fm_ts Gs13 Fs21 (by decide) (by decide +kernel)
      have JRLx_s21 : RLx s21 := RLx_fm Fs21 (by decide) JRLx_s13
      have JFEQ_s21 : FEQ s21 := FEQ_fm Fs21 (by decide) JFEQ_s13
      have ws21_0 : iI s21 0 = iI s13 0 := fm_iq Fs21 rfl
      have ws21_74 : iI s21 74 = iI s13 74 := fm_iq Fs21 rfl
      have ws21_9 : iI s21 9 = iI s13 9 := fm_iq Fs21 rfl
      have ws21_90 : iI s21 90 = iI s13 90 := fm_iq Fs21 rfl
      have ws21_12 : iI s21 12 = iI s13 12 := fm_iq Fs21 rfl
      have ws21_89 : iI s21 89 = iI s13 89 := fm_iq Fs21 rfl
      have wos21 : iO s21 = iO s13 := fm_o Fs21 (by decide)
      show WS k 1645 [(5, .int (Int32.ofInt e14)), (0, .ref q1), (1, .ref (A 0)), (2, .ref (A 179)), (3, .ref (A 517)), (4, .int (Int32.ofInt i))] [.int (Int32.ofInt e22)] (Wd A dT s21) (ce + 3) (sl + 18)
      refine z_store X (lv' := [(6, .int (Int32.ofInt e22)), (5, .int (Int32.ofInt e14)), (0, .ref q1), (1, .ref (A 0)), (2, .ref (A 179)), (3, .ref (A 517)), (4, .int (Int32.ofInt i))]) rfl (by decide) (fun _ h => h) (z_goto X (t := 1877) rfl rfl (w_widen (ce' := ce + 29) (sl' := sl + 222) (by first | exact Nat.le_add_right _ _ | exact Nat.add_le_add_left (by decide) _ | omega) (by first | exact Nat.le_add_right _ _ | exact Nat.add_le_add_left (by decide) _ | omega) ?_))
      exact WS_lv (lv := [(0, .ref q1), (1, .ref (A 0)), (2, .ref (A 179)), (3, .ref (A 517)), (4, .int (Int32.ofInt i))]) (List.forall_mem_cons.mpr ⟨(List.Mem.tail _ (List.Mem.tail _ (List.Mem.head _))), (List.forall_mem_cons.mpr ⟨(List.Mem.tail _ (List.Mem.tail _ (List.Mem.tail _ (List.Mem.head _)))), (List.forall_mem_cons.mpr ⟨(List.Mem.tail _ (List.Mem.tail _ (List.Mem.tail _ (List.Mem.tail _ (List.Mem.head _))))), (List.forall_mem_cons.mpr ⟨(List.Mem.tail _ (List.Mem.tail _ (List.Mem.tail _ (List.Mem.tail _ (List.Mem.tail _ (List.Mem.head _)))))), (List.forall_mem_cons.mpr ⟨(List.Mem.tail _ (List.Mem.tail _ (List.Mem.tail _ (List.Mem.tail _ (List.Mem.tail _ (List.Mem.tail _ (List.Mem.head _))))))), (fun q h => absurd h List.not_mem_nil)⟩)⟩)⟩)⟩)⟩) (hk A _ Is21 JRLx_s21 JFEQ_s21 (by first | exact oq_f34933ba ws21_89 ws13_89 p1 b6.1 | omega) (by first | exact oq_d7ce4408 ws21_12 ws13_12 p2 | omega) (by first | exact oq_5bcdc35f ws21_74 ws21_0 ws13_74 ws13_0 p3 | omega) (by first | exact oq_5bcdc35f ws21_90 ws21_9 ws13_90 ws13_9 p4 | omega))
    refine z_if_eq X (t := 1641) rfl rfl ⟨by first | exact sr18.1 | omega, by first | exact sr18.2 | omega⟩ (fun g23 => ?_) (fun g23 => ?_)
    ·
      exact z_const X rfl (N19 _ (Or.inl ⟨g23, rfl⟩))
    ·
      exact z_const X rfl (z_goto X (t := 1642) rfl rfl (N19 _ (Or.inr (⟨g23, rfl⟩))))
  refine z_if_eq X (t := 1602) rfl rfl ⟨by first | exact sr10.1 | omega, by first | exact sr10.2 | omega⟩ (fun g24 => ?_) (fun g24 => ?_)
  ·
    exact z_const X rfl (N11 _ (Or.inl ⟨g24, rfl⟩))
  ·
    exact z_const X rfl (z_goto X (t := 1603) rfl rfl (N11 _ (Or.inr (⟨g24, rfl⟩))))
theorem lc_37 (G : GX l s0 D tys a0 dT) (GR : RS0 s0) (SF : SF0 s0) (GT : TXs0 s0) {k : kx_T} (X : AX k 350 dT) (E : kL k = l ∧ kS0 k = s0 ∧ kD k = D ∧ kR k = room_1) {q1 L : Nat} {xs : Nat → Int32} (S : SX k q1 L xs) (hL : L ≤ 3072) (I : Bd s) (jR : RLx s) (jFEQ : FEQ s) (p1 : iI s 89 = 1) (p2 : iI s 12 ≤ 8) (p3 : iI s 0 = iI s 74) (p4 : iI s 9 = iI s 90) {i : Int} (hi : 0 ≤ i ∧ i + 6 ≤ (L : Int)) {ce sl : Nat} (hce : ce + 29 ≤ 601024) (hsl : sl + 222 ≤ 7293034) (hk : ∀ (A : Nat → Nat) (t : PS), Bd t → RLx t → FEQ t → iI t 89 = 1 → iI t 12 ≤ 8 → iI t 0 = iI t 74 → iI t 9 = iI t 90 → WS k 1877 [(0, .ref q1), (1, .ref (A 0)), (2, .ref (A 179)), (3, .ref (A 517)), (4, .int (Int32.ofInt i))] [] (Wd A dT t) (ce + 29) (sl + 222)) : WS k 1650 [(0, .ref q1), (1, .ref (A 0)), (2, .ref (A 179)), (3, .ref (A 517)), (4, .int (Int32.ofInt i))] [] (Wd A dT s) ce sl := by
  have F : Fm [71, 72, 73] [156, 155, 1460] s s := fm_rf _ _ s
  have b1 := bi_0 I
  have b2 := bi_74 I
  have b3 := bi_9 I
  have b4 := bi_90 I
  have b5 := bi_12 I
  have b6 := bi_89 I
  refine z_aload_n X (x := A 0) rfl (List.Mem.tail _ (List.Mem.head _)) (z_aload_n X (x := q1) rfl (List.Mem.head _) (z_load X (x := i) rfl (List.Mem.tail _ (List.Mem.tail _ (List.Mem.tail _ (List.Mem.tail _ (List.Mem.head _))))) (z_const X rfl (z_add X rfl (z_sld X S hL rfl (show 0 ≤ (i + 1) ∧ (i + 1) < (L : Int) by first | exact sx_in hi (by decide) | omega) ?_)))))
  have sr7 : rng (sc xs (i + 1)) := sc_rng
  refine z_aload_n X (x := A 517) rfl (List.Mem.tail _ (List.Mem.tail _ (List.Mem.tail _ (List.Mem.head _)))) (z_callL X (rm := rmN 346) (As := [.ref (A 0), .int (Int32.ofInt (sc xs (i + 1))), .ref (A 517)]) (st := []) rfl (by decide) rfl (by rw [E.1, E.2.1, E.2.2.1]; exact lw_fit G I (by omega)) ⟨by rw [E.2.2.2]; exact (show 10 + 1 ≤ 2048 by decide), by rw [E.2.2.2]; exact (show 8 + (4 + 11) + 190 ≤ 84000 by decide), by rw [E.2.2.2]; exact (show ce + 1 ≤ 601024 by first | exact rmo_1 hce (by decide) | exact rmo_2 hce (by decide) | omega), by rw [E.2.2.2]; exact (show sl + 6 ≤ 7293034 by first | exact rmo_1 hsl (by decide) | exact rmo_2 hsl (by decide) | omega)⟩ (Nat.le_of_ble_eq_true rfl) (fun vv A s8 hA2 hq => ?_) (fun ee A s8 hA2 hq => ?_))
  rotate_left
  · obtain ⟨Is8, Fs8, e9, hv, hrs8, hps8⟩ := hq; cases hv
  obtain ⟨Is8, Fs8, e9, hv, hrs8, hps8⟩ := hq
  cases hv
  rw [← hA2 0 (by decide)]
  rw [← hA2 179 (by decide)]
  rw [← hA2 517 (by decide)]
  have Gs8 := fm_tq F Fs8 rfl rfl
  have JRLx_s8 : RLx s8 := RLx_fm Fs8 (by decide) jR
  have JFEQ_s8 : FEQ s8 := FEQ_fm Fs8 (by decide) jFEQ
  have ws8_0 : iI s8 0 = iI s 0 := fm_iq Fs8 rfl
  have ws8_74 : iI s8 74 = iI s 74 := fm_iq Fs8 rfl
  have ws8_9 : iI s8 9 = iI s 9 := fm_iq Fs8 rfl
  have ws8_90 : iI s8 90 = iI s 90 := fm_iq Fs8 rfl
  have ws8_12 : iI s8 12 = iI s 12 := fm_iq Fs8 rfl
  have ws8_89 : iI s8 89 = iI s 89 := fm_iq Fs8 rfl
  show WS k 1661 [(0, .ref q1), (1, .ref (A 0)), (2, .ref (A 179)), (3, .ref (A 517)), (4, .int (Int32.ofInt i))] [.int (Int32.ofInt e9)] (Wd A dT s8) (ce + 1) (sl + 6)
  refine z_store X (lv' := [(5, .int (Int32.ofInt e9)), (0, .ref q1), (1, .ref (A 0)), (2, .ref (A 179)), (3, .ref (A 517)), (4, .int (Int32.ofInt i))]) rfl (by decide) (fun _ h => h) (z_aload_n X (x := A 179) rfl (List.Mem.tail _ (List.Mem.tail _ (List.Mem.tail _ (List.Mem.head _)))) (z_aload_n X (x := q1) rfl (List.Mem.tail _ (List.Mem.head _)) (z_load X (x := i) rfl (List.Mem.tail _ (List.Mem.tail _ (List.Mem.tail _ (List.Mem.tail _ (List.Mem.tail _ (List.Mem.head _)))))) (z_const X rfl (z_add X rfl (z_sld X S hL rfl (show 0 ≤ (i + 1) ∧ (i + 1) < (L : Int) by first | exact sx_in hi (by decide) | omega) ?_))))))
  have sr10 : rng (sc xs (i + 1)) := sc_rng
  refine z_callV X 179 (rm := rmN 289) (As := [.int (Int32.ofInt (sc xs (i + 1)))]) (st := []) rfl rfl (by decide) rfl (by rw [E.1, E.2.1, E.2.2.1]; exact k_fit G Is8 (by first | exact ⟨sr10.1, sr10.2⟩ | omega)) ⟨by rw [E.2.2.2]; exact (show 8 + 1 ≤ 2048 from oq_5bf2829b), by rw [E.2.2.2]; exact (show 8 + (7 + 11) + 145 ≤ 84000 from oq_8fd475f0), by rw [E.2.2.2]; exact (show (ce + 1) + 0 ≤ 601024 by omega), by rw [E.2.2.2]; exact (show (sl + 6) + 0 ≤ 7293034 by omega)⟩ (Nat.le_of_ble_eq_true rfl) (fun vv s11 hq => ?_) (fun ee s11 hq => ?_)
  rotate_left
  · obtain ⟨Is11, Fs11, e12, hv, hrs11, hps11⟩ := hq; cases hv
  obtain ⟨Is11, Fs11, e12, hv, hrs11, hps11⟩ := hq
  cases hv
  have Gs11 := fm_tq Gs8 Fs11 rfl rfl
  have JRLx_s11 : RLx s11 := RLx_fm Fs11 (by decide) JRLx_s8
  have JFEQ_s11 : FEQ s11 := FEQ_fm Fs11 (by decide) JFEQ_s8
  have ws11_0 : iI s11 0 = iI s8 0 := fm_iq Fs11 rfl
  have ws11_74 : iI s11 74 = iI s8 74 := fm_iq Fs11 rfl
  have ws11_9 : iI s11 9 = iI s8 9 := fm_iq Fs11 rfl
  have ws11_90 : iI s11 90 = iI s8 90 := fm_iq Fs11 rfl
  have ws11_12 : iI s11 12 = iI s8 12 := fm_iq Fs11 rfl
  have ws11_89 : iI s11 89 = iI s8 89 := fm_iq Fs11 rfl
  have wos11 : iO s11 = iO s8 := fm_o Fs11 (by decide)
  show WS k 1673 [(5, .int (Int32.ofInt e9)), (0, .ref q1), (1, .ref (A 0)), (2, .ref (A 179)), (3, .ref (A 517)), (4, .int (Int32.ofInt i))] [.int (Int32.ofInt e12)] (Wd A dT s11) (ce + 1) (sl + 6)
  refine z_store X (lv' := [(6, .int (Int32.ofInt e12)), (5, .int (Int32.ofInt e9)), (0, .ref q1), (1, .ref (A 0)), (2, .ref (A 179)), (3, .ref (A 517)), (4, .int (Int32.ofInt i))]) rfl (by decide) (fun _ h => h) (z_goto X (t := 1877) rfl rfl (w_widen (ce' := ce + 29) (sl' := sl + 222) (by first | exact Nat.le_add_right _ _ | exact Nat.add_le_add_left (by decide) _ | omega) (by first | exact Nat.le_add_right _ _ | exact Nat.add_le_add_left (by decide) _ | omega) ?_))
  exact WS_lv (lv := [(0, .ref q1), (1, .ref (A 0)), (2, .ref (A 179)), (3, .ref (A 517)), (4, .int (Int32.ofInt i))]) (List.forall_mem_cons.mpr ⟨(List.Mem.tail _ (List.Mem.tail _ (List.Mem.head _))), (List.forall_mem_cons.mpr ⟨(List.Mem.tail _ (List.Mem.tail _ (List.Mem.tail _ (List.Mem.head _)))), (List.forall_mem_cons.mpr ⟨(List.Mem.tail _ (List.Mem.tail _ (List.Mem.tail _ (List.Mem.tail _ (List.Mem.head _))))), (List.forall_mem_cons.mpr ⟨(List.Mem.tail _ (List.Mem.tail _ (List.Mem.tail _ (List.Mem.tail _ (List.Mem.tail _ (List.Mem.head _)))))), (List.forall_mem_cons.mpr ⟨(List.Mem.tail _ (List.Mem.tail _ (List.Mem.tail _ (List.Mem.tail _ (List.Mem.tail _ (List.Mem.tail _ (List.Mem.head _))))))), (fun q h => absurd h List.not_mem_nil)⟩)⟩)⟩)⟩)⟩) (hk A _ Is11 JRLx_s11 JFEQ_s11 (by first | exact oq_f34933ba ws11_89 ws8_89 p1 b6.1 | omega) (by first | exact oq_d7ce4408 ws11_12 ws8_12 p2 | omega) (by first | exact oq_5bcdc35f ws11_74 ws11_0 ws8_74 ws8_0 p3 | omega) (by first | exact oq_5bcdc35f ws11_90 ws11_9 ws8_90 ws8_9 p4 | omega))
theorem lc_38 (G : GX l s0 D tys a0 dT) (GR : RS0 s0) (SF : SF0 s0) (GT : TXs0 s0) {k : kx_T} (X : AX k 350 dT) (E : kL k = l ∧ kS0 k = s0 ∧ kD k = D ∧ kR k = room_1) {q1 L : Nat} {xs : Nat → Int32} (S : SX k q1 L xs) (hL : L ≤ 3072) (I : Bd s) (jR : RLx s) (jFEQ : FEQ s) (p1 : iI s 89 = 1) (p2 : iI s 12 ≤ 8) (p3 : iI s 0 = iI s 74) (p4 : iI s 9 = iI s 90) {i : Int} (hi : 0 ≤ i ∧ i + 6 ≤ (L : Int)) {ce sl : Nat} (hce : ce + 29 ≤ 601024) (hsl : sl + 222 ≤ 7293034) (hk : ∀ (A : Nat → Nat) (t : PS), Bd t → RLx t → FEQ t → iI t 89 = 1 → iI t 12 ≤ 8 → iI t 0 = iI t 74 → iI t 9 = iI t 90 → WS k 1877 [(0, .ref q1), (1, .ref (A 0)), (2, .ref (A 179)), (3, .ref (A 517)), (4, .int (Int32.ofInt i))] [] (Wd A dT t) (ce + 29) (sl + 222)) : WS k 1678 [(0, .ref q1), (1, .ref (A 0)), (2, .ref (A 179)), (3, .ref (A 517)), (4, .int (Int32.ofInt i))] [] (Wd A dT s) ce sl := by
  have F : Fm [22, 23, 73, 77, 75, 78, 79, 80, 81] [33, 26, 27, 28, 29, 30, 31, 32, 20, 34, 1460, 202, 204, 205, 206, 207, 208, 209, 210, 211, 212, 213, 214, 215, 216, 217, 218, 219, 220, 221, 222, 223, 224, 225, 226, 227, 203, 161, 230] s s := fm_rf _ _ s
  have b1 := bi_0 I
  have b2 := bi_74 I
  have b3 := bi_9 I
  have b4 := bi_90 I
  have b5 := bi_12 I
  have b6 := bi_89 I
  refine z_aload_n X (x := A 0) rfl (List.Mem.tail _ (List.Mem.head _)) (z_aload_n X (x := q1) rfl (List.Mem.head _) (z_load X (x := i) rfl (List.Mem.tail _ (List.Mem.tail _ (List.Mem.tail _ (List.Mem.tail _ (List.Mem.head _))))) (z_const X rfl (z_add X rfl (z_sld X S hL rfl (show 0 ≤ (i + 1) ∧ (i + 1) < (L : Int) by first | exact sx_in hi (by decide) | omega) ?_)))))
  have sr7 : rng (sc xs (i + 1)) := sc_rng
  refine z_aload_n X (x := q1) rfl (List.Mem.head _) (z_load X (x := i) rfl (List.Mem.tail _ (List.Mem.tail _ (List.Mem.tail _ (List.Mem.tail _ (List.Mem.head _))))) (z_const X rfl (z_add X rfl (z_sld X S hL rfl (show 0 ≤ (i + 2) ∧ (i + 2) < (L : Int) by first | exact sx_in hi (by decide) | omega) ?_))))
  have sr8 : rng (sc xs (i + 2)) := sc_rng
  refine z_aload_n X (x := q1) rfl (List.Mem.head _) (z_load X (x := i) rfl (List.Mem.tail _ (List.Mem.tail _ (List.Mem.tail _ (List.Mem.tail _ (List.Mem.head _))))) (z_const X rfl (z_add X rfl (z_sld X S hL rfl (show 0 ≤ (i + 3) ∧ (i + 3) < (L : Int) by first | exact sx_in hi (by decide) | omega) ?_))))
  have sr9 : rng (sc xs (i + 3)) := sc_rng
  refine z_aload_n X (x := q1) rfl (List.Mem.head _) (z_load X (x := i) rfl (List.Mem.tail _ (List.Mem.tail _ (List.Mem.tail _ (List.Mem.tail _ (List.Mem.head _))))) (z_const X rfl (z_add X rfl (z_sld X S hL rfl (show 0 ≤ (i + 4) ∧ (i + 4) < (L : Int) by first | exact sx_in hi (by decide) | omega) ?_))))
  have sr10 : rng (sc xs (i + 4)) := sc_rng
  have N11 : ∀ e12 : Int, ((((sc xs (i + 4)) = 0) ∧ e12 = 0) ∨ (((sc xs (i + 4)) ≠ 0) ∧ e12 = 1)) → WS k 1711 [(0, .ref q1), (1, .ref (A 0)), (2, .ref (A 179)), (3, .ref (A 517)), (4, .int (Int32.ofInt i))] [.int (Int32.ofInt e12), .int (Int32.ofInt (sc xs (i + 3))), .int (Int32.ofInt (sc xs (i + 2))), .int (Int32.ofInt (sc xs (i + 1))), .ref (A 0)] (Wd A dT s) ce sl := by
    intro e12 he12
    have re12 : 0 ≤ e12 ∧ e12 ≤ 1 := by first | (clear he12; omega) | omega
    refine z_aload_n X (x := A 517) rfl (List.Mem.tail _ (List.Mem.tail _ (List.Mem.tail _ (List.Mem.head _)))) (z_callL X (rm := rmN 347) (As := [.ref (A 0), .int (Int32.ofInt (sc xs (i + 1))), .int (Int32.ofInt (sc xs (i + 2))), .int (Int32.ofInt (sc xs (i + 3))), .int (Int32.ofInt e12), .ref (A 517)]) (st := []) rfl (by decide) rfl (by rw [E.1, E.2.1, E.2.2.1]; exact lw_lead G I (by first | (clear he12; omega) | omega) (by first | (clear he12; omega) | omega) (by first | (clear he12; omega) | omega) (by first | (clear he12; omega) | omega)) ⟨by rw [E.2.2.2]; exact (show 11 + 1 ≤ 2048 by decide), by rw [E.2.2.2]; exact (show 8 + (7 + 11) + 230 ≤ 84000 by decide), by rw [E.2.2.2]; exact (show ce + 2 ≤ 601024 by first | exact rmo_1 hce (by decide) | exact rmo_2 hce (by decide) | omega), by rw [E.2.2.2]; exact (show sl + 12 ≤ 7293034 by first | exact rmo_1 hsl (by decide) | exact rmo_2 hsl (by decide) | omega)⟩ (Nat.le_of_ble_eq_true rfl) (fun vv A s13 hA2 hq => ?_) (fun ee A s13 hA2 hq => ?_))
    rotate_left
    · obtain ⟨Is13, Fs13, e14, hv, hrs13, hps13⟩ := hq; cases hv
    obtain ⟨Is13, Fs13, e14, hv, hrs13, hps13⟩ := hq
    cases hv
    rw [← hA2 0 (by decide)]
    rw [← hA2 179 (by decide)]
    rw [← hA2 517 (by decide)]
    have Gs13 := fm_tq F Fs13 rfl rfl
    have JRLx_s13 : RLx s13 := RLx_fm Fs13 (by decide) jR
    have JFEQ_s13 : FEQ s13 := FEQ_fm Fs13 (by decide) jFEQ
    have ws13_0 : iI s13 0 = iI s 0 := fm_iq Fs13 rfl
    have ws13_74 : iI s13 74 = iI s 74 := fm_iq Fs13 rfl
    have ws13_9 : iI s13 9 = iI s 9 := fm_iq Fs13 rfl
    have ws13_90 : iI s13 90 = iI s 90 := fm_iq Fs13 rfl
    have ws13_12 : iI s13 12 = iI s 12 := fm_iq Fs13 rfl
    have ws13_89 : iI s13 89 = iI s 89 := fm_iq Fs13 rfl
    show WS k 1715 [(0, .ref q1), (1, .ref (A 0)), (2, .ref (A 179)), (3, .ref (A 517)), (4, .int (Int32.ofInt i))] [.int (Int32.ofInt e14)] (Wd A dT s13) (ce + 2) (sl + 12)
    refine z_store X (lv' := [(5, .int (Int32.ofInt e14)), (0, .ref q1), (1, .ref (A 0)), (2, .ref (A 179)), (3, .ref (A 517)), (4, .int (Int32.ofInt i))]) rfl (by decide) (fun _ h => h) (z_aload_n X (x := A 179) rfl (List.Mem.tail _ (List.Mem.tail _ (List.Mem.tail _ (List.Mem.head _)))) (z_aload_n X (x := q1) rfl (List.Mem.tail _ (List.Mem.head _)) (z_load X (x := i) rfl (List.Mem.tail _ (List.Mem.tail _ (List.Mem.tail _ (List.Mem.tail _ (List.Mem.tail _ (List.Mem.head _)))))) (z_const X rfl (z_add X rfl (z_sld X S hL rfl (show 0 ≤ (i + 1) ∧ (i + 1) < (L : Int) by first | exact sx_in hi (by decide) | omega) ?_))))))
    have sr15 : rng (sc xs (i + 1)) := sc_rng
    refine z_aload_n X (x := q1) rfl (List.Mem.tail _ (List.Mem.head _)) (z_load X (x := i) rfl (List.Mem.tail _ (List.Mem.tail _ (List.Mem.tail _ (List.Mem.tail _ (List.Mem.tail _ (List.Mem.head _)))))) (z_const X rfl (z_add X rfl (z_sld X S hL rfl (show 0 ≤ (i + 2) ∧ (i + 2) < (L : Int) by first | exact sx_in hi (by decide) | omega) ?_))))
    have sr16 : rng (sc xs (i + 2)) := sc_rng
    refine z_aload_n X (x := q1) rfl (List.Mem.tail _ (List.Mem.head _)) (z_load X (x := i) rfl (List.Mem.tail _ (List.Mem.tail _ (List.Mem.tail _ (List.Mem.tail _ (List.Mem.tail _ (List.Mem.head _)))))) (z_const X rfl (z_add X rfl (z_sld X S hL rfl (show 0 ≤ (i + 3) ∧ (i + 3) < (L : Int) by first | exact sx_in hi (by decide) | omega) ?_))))
    have sr17 : rng (sc xs (i + 3)) := sc_rng
    refine z_aload_n X (x := q1) rfl (List.Mem.tail _ (List.Mem.head _)) (z_load X (x := i) rfl (List.Mem.tail _ (List.Mem.tail _ (List.Mem.tail _ (List.Mem.tail _ (List.Mem.tail _ (List.Mem.head _)))))) (z_const X rfl (z_add X rfl (z_sld X S hL rfl (show 0 ≤ (i + 4) ∧ (i + 4) < (L : Int) by first | exact sx_in hi (by decide) | omega) ?_))))
    have sr18 : rng (sc xs (i + 4)) := sc_rng
    have N19 : ∀ e20 : Int, ((((sc xs (i + 4)) = 0) ∧ e20 = 0) ∨ (((sc xs (i + 4)) ≠ 0) ∧ e20 = 1)) → WS k 1750 [(5, .int (Int32.ofInt e14)), (0, .ref q1), (1, .ref (A 0)), (2, .ref (A 179)), (3, .ref (A 517)), (4, .int (Int32.ofInt i))] [.int (Int32.ofInt e20), .int (Int32.ofInt (sc xs (i + 3))), .int (Int32.ofInt (sc xs (i + 2))), .int (Int32.ofInt (sc xs (i + 1))), .ref (A 179)] (Wd A dT s13) (ce + 2) (sl + 12) := by
      intro e20 he20
      have re20 : 0 ≤ e20 ∧ e20 ≤ 1 := by first | (clear he20 he12; omega) | (clear he12; omega) | omega
      refine z_callV X 179 (rm := rmN 290) (As := [.int (Int32.ofInt (sc xs (i + 1))), .int (Int32.ofInt (sc xs (i + 2))), .int (Int32.ofInt (sc xs (i + 3))), .int (Int32.ofInt e20)]) (st := []) rfl rfl (by decide) rfl (by rw [E.1, E.2.1, E.2.2.1]; exact k_lead G Is13 JRLx_s13 (by first | exact ⟨sr15.1, sr15.2⟩ | omega) (by first | exact ⟨sr16.1, sr16.2⟩ | omega) (by first | exact ⟨sr17.1, sr17.2⟩ | omega) (by first | exact oq_31e518ae re20.2 re20.1 | omega)) ⟨by rw [E.2.2.2]; exact (show 37 + 1 ≤ 2048 from oq_2596b3cb), by rw [E.2.2.2]; exact (show 8 + (10 + 11) + 1578 ≤ 84000 from oq_d572abc1), by rw [E.2.2.2]; exact (show (ce + 2) + 1 ≤ 601024 by first | (clear he20 he12; omega) | (clear he12; omega) | omega), by rw [E.2.2.2]; exact (show (sl + 12) + 12 ≤ 7293034 by first | (clear he20 he12; omega) | (clear he12; omega) | omega)⟩ (Nat.le_of_ble_eq_true rfl) (fun vv s21 hq => ?_) (fun ee s21 hq => ?_)
      rotate_left
      · obtain ⟨Is21, Fs21, JRLx_s21, e22, hv, hrs21, hps21⟩ := hq; cases hv
      obtain ⟨Is21, Fs21, JRLx_s21, e22, hv, hrs21, hps21⟩ := hq
      cases hv
      have Gs21 := fm_tq Gs13 Fs21 rfl rfl
      have JRLx_s21 : RLx s21 := RLx_fm Fs21 (by decide) JRLx_s13
      have JFEQ_s21 : FEQ s21 := FEQ_fm Fs21 (by decide) JFEQ_s13
      have ws21_0 : iI s21 0 = iI s13 0 := fm_iq Fs21 rfl
      have ws21_74 : iI s21 74 = iI s13 74 := fm_iq Fs21 rfl
      have ws21_9 : iI s21 9 = iI s13 9 := fm_iq Fs21 rfl
      have ws21_90 : iI s21 90 = iI s13 90 := fm_iq Fs21 rfl
      have ws21_12 : iI s21 12 = iI s13 12 := fm_iq Fs21 rfl
      have ws21_89 : iI s21 89 = iI s13 89 := fm_iq Fs21 rfl
      have wos21 : iO s21 = iO s13 := fm_o Fs21 (by decide)
      show WS k 1753 [(5, .int (Int32.ofInt e14)), (0, .ref q1), (1, .ref (A 0)), (2, .ref (A 179)), (3, .ref (A 517)), (4, .int (Int32.ofInt i))] [.int (Int32.ofInt e22)] (Wd A dT s21) ((ce + 2) + 1) ((sl + 12) + 12)
      refine z_store X (lv' := [(6, .int (Int32.ofInt e22)), (5, .int (Int32.ofInt e14)), (0, .ref q1), (1, .ref (A 0)), (2, .ref (A 179)), (3, .ref (A 517)), (4, .int (Int32.ofInt i))]) rfl (by decide) (fun _ h => h) (z_goto X (t := 1877) rfl rfl (w_widen (ce' := ce + 29) (sl' := sl + 222) (by first | exact Nat.le_add_right _ _ | exact Nat.add_le_add_left (by decide) _ | omega) (by first | exact Nat.le_add_right _ _ | exact Nat.add_le_add_left (by decide) _ | omega) ?_))
      exact WS_lv (lv := [(0, .ref q1), (1, .ref (A 0)), (2, .ref (A 179)), (3, .ref (A 517)), (4, .int (Int32.ofInt i))]) (List.forall_mem_cons.mpr ⟨(List.Mem.tail _ (List.Mem.tail _ (List.Mem.head _))), (List.forall_mem_cons.mpr ⟨(List.Mem.tail _ (List.Mem.tail _ (List.Mem.tail _ (List.Mem.head _)))), (List.forall_mem_cons.mpr ⟨(List.Mem.tail _ (List.Mem.tail _ (List.Mem.tail _ (List.Mem.tail _ (List.Mem.head _))))), (List.forall_mem_cons.mpr ⟨(List.Mem.tail _ (List.Mem.tail _ (List.Mem.tail _ (List.Mem.tail _ (List.Mem.tail _ (List.Mem.head _)))))), (List.forall_mem_cons.mpr ⟨(List.Mem.tail _ (List.Mem.tail _ (List.Mem.tail _ (List.Mem.tail _ (List.Mem.tail _ (List.Mem.tail _ (List.Mem.head _))))))), (fun q h => absurd h List.not_mem_nil)⟩)⟩)⟩)⟩)⟩) (hk A _ Is21 JRLx_s21 JFEQ_s21 (by first | exact oq_f34933ba ws21_89 ws13_89 p1 b6.1 | omega) (by first | exact oq_d7ce4408 ws21_12 ws13_12 p2 | omega) (by first | exact oq_5bcdc35f ws21_74 ws21_0 ws13_74 ws13_0 p3 | omega) (by first | exact oq_5bcdc35f ws21_90 ws21_9 ws13_90 ws13_9 p4 | omega))
    refine z_if_eq X (t := 1749) rfl rfl ⟨by first | exact sr18.1 | omega, by first | exact sr18.2 | omega⟩ (fun g23 => ?_) (fun g23 => ?_)
    ·
      exact z_const X rfl (N19 _ (Or.inl ⟨g23, rfl⟩))
    ·
      exact z_const X rfl (z_goto X (t := 1750) rfl rfl (N19 _ (Or.inr (⟨g23, rfl⟩))))
  refine z_if_eq X (t := 1710) rfl rfl ⟨by first | exact sr10.1 | omega, by first | exact sr10.2 | omega⟩ (fun g24 => ?_) (fun g24 => ?_)
  ·
    exact z_const X rfl (N11 _ (Or.inl ⟨g24, rfl⟩))
  ·
    exact z_const X rfl (z_goto X (t := 1711) rfl rfl (N11 _ (Or.inr (⟨g24, rfl⟩))))
theorem lc_39 (G : GX l s0 D tys a0 dT) (GR : RS0 s0) (SF : SF0 s0) (GT : TXs0 s0) {k : kx_T} (X : AX k 350 dT) (E : kL k = l ∧ kS0 k = s0 ∧ kD k = D ∧ kR k = room_1) {q1 L : Nat} {xs : Nat → Int32} (S : SX k q1 L xs) (hL : L ≤ 3072) (I : Bd s) (jR : RLx s) (jFEQ : FEQ s) (p1 : iI s 89 = 1) (p2 : iI s 12 ≤ 8) (p3 : iI s 0 = iI s 74) (p4 : iI s 9 = iI s 90) {i : Int} (hi : 0 ≤ i ∧ i + 6 ≤ (L : Int)) {ce sl : Nat} (hce : ce + 29 ≤ 601024) (hsl : sl + 222 ≤ 7293034) (hk : ∀ (A : Nat → Nat) (t : PS), Bd t → RLx t → FEQ t → iI t 89 = 1 → iI t 12 ≤ 8 → iI t 0 = iI t 74 → iI t 9 = iI t 90 → WS k 1877 [(0, .ref q1), (1, .ref (A 0)), (2, .ref (A 179)), (3, .ref (A 517)), (4, .int (Int32.ofInt i))] [] (Wd A dT t) (ce + 29) (sl + 222)) : WS k 1758 [(0, .ref q1), (1, .ref (A 0)), (2, .ref (A 179)), (3, .ref (A 517)), (4, .int (Int32.ofInt i))] [] (Wd A dT s) ce sl := by
  have F : Fm [22, 23, 24, 73, 77, 75, 78, 79, 80, 81] [33, 26, 27, 28, 29, 30, 31, 32, 20, 36, 37, 35, 21, 1022, 1023, 1460, 202, 204, 205, 206, 207, 208, 209, 210, 211, 212, 213, 214, 215, 216, 217, 218, 219, 220, 221, 222, 223, 224, 225, 226, 227, 203, 161, 230, 233, 228] s s := fm_rf _ _ s
  have b1 := bi_0 I
  have b2 := bi_74 I
  have b3 := bi_9 I
  have b4 := bi_90 I
  have b5 := bi_12 I
  have b6 := bi_89 I
  refine z_aload_n X (x := A 0) rfl (List.Mem.tail _ (List.Mem.head _)) (z_aload_n X (x := q1) rfl (List.Mem.head _) (z_load X (x := i) rfl (List.Mem.tail _ (List.Mem.tail _ (List.Mem.tail _ (List.Mem.tail _ (List.Mem.head _))))) (z_const X rfl (z_add X rfl (z_sld X S hL rfl (show 0 ≤ (i + 1) ∧ (i + 1) < (L : Int) by first | exact sx_in hi (by decide) | omega) ?_)))))
  have sr7 : rng (sc xs (i + 1)) := sc_rng
  refine z_aload_n X (x := q1) rfl (List.Mem.head _) (z_load X (x := i) rfl (List.Mem.tail _ (List.Mem.tail _ (List.Mem.tail _ (List.Mem.tail _ (List.Mem.head _))))) (z_const X rfl (z_add X rfl (z_sld X S hL rfl (show 0 ≤ (i + 2) ∧ (i + 2) < (L : Int) by first | exact sx_in hi (by decide) | omega) ?_))))
  have sr8 : rng (sc xs (i + 2)) := sc_rng
  refine z_aload_n X (x := A 517) rfl (List.Mem.tail _ (List.Mem.tail _ (List.Mem.tail _ (List.Mem.head _)))) (z_callL X (rm := rmN 348) (As := [.ref (A 0), .int (Int32.ofInt (sc xs (i + 1))), .int (Int32.ofInt (sc xs (i + 2))), .ref (A 517)]) (st := []) rfl (by decide) rfl (by rw [E.1, E.2.1, E.2.2.1]; exact lw_worth G I (by omega) (by omega)) ⟨by rw [E.2.2.2]; exact (show 13 + 1 ≤ 2048 by decide), by rw [E.2.2.2]; exact (show 8 + (5 + 11) + 262 ≤ 84000 by decide), by rw [E.2.2.2]; exact (show ce + 3 ≤ 601024 by first | exact rmo_1 hce (by decide) | exact rmo_2 hce (by decide) | omega), by rw [E.2.2.2]; exact (show sl + 18 ≤ 7293034 by first | exact rmo_1 hsl (by decide) | exact rmo_2 hsl (by decide) | omega)⟩ (Nat.le_of_ble_eq_true rfl) (fun vv A s9 hA2 hq => ?_) (fun ee A s9 hA2 hq => ?_))
  rotate_left
  · obtain ⟨Is9, Fs9, e10, hv, hrs9, hps9⟩ := hq; cases hv
  obtain ⟨Is9, Fs9, e10, hv, hrs9, hps9⟩ := hq
  cases hv
  rw [← hA2 0 (by decide)]
  rw [← hA2 179 (by decide)]
  rw [← hA2 517 (by decide)]
  have Gs9 := fm_tq F Fs9 rfl rfl
  have JRLx_s9 : RLx s9 := RLx_fm Fs9 (by decide) jR
  have JFEQ_s9 : FEQ s9 := FEQ_fm Fs9 (by decide) jFEQ
  have ws9_0 : iI s9 0 = iI s 0 := fm_iq Fs9 rfl
  have ws9_74 : iI s9 74 = iI s 74 := fm_iq Fs9 rfl
  have ws9_9 : iI s9 9 = iI s 9 := fm_iq Fs9 rfl
  have ws9_90 : iI s9 90 = iI s 90 := fm_iq Fs9 rfl
  have ws9_12 : iI s9 12 = iI s 12 := fm_iq Fs9 rfl
  have ws9_89 : iI s9 89 = iI s 89 := fm_iq Fs9 rfl
  show WS k 1775 [(0, .ref q1), (1, .ref (A 0)), (2, .ref (A 179)), (3, .ref (A 517)), (4, .int (Int32.ofInt i))] [.int (Int32.ofInt e10)] (Wd A dT s9) (ce + 3) (sl + 18)
  refine z_store X (lv' := [(5, .int (Int32.ofInt e10)), (0, .ref q1), (1, .ref (A 0)), (2, .ref (A 179)), (3, .ref (A 517)), (4, .int (Int32.ofInt i))]) rfl (by decide) (fun _ h => h) (z_aload_n X (x := A 179) rfl (List.Mem.tail _ (List.Mem.tail _ (List.Mem.tail _ (List.Mem.head _)))) (z_aload_n X (x := q1) rfl (List.Mem.tail _ (List.Mem.head _)) (z_load X (x := i) rfl (List.Mem.tail _ (List.Mem.tail _ (List.Mem.tail _ (List.Mem.tail _ (List.Mem.tail _ (List.Mem.head _)))))) (z_const X rfl (z_add X rfl (z_sld X S hL rfl (show 0 ≤ (i + 1) ∧ (i + 1) < (L : Int) by first | exact sx_in hi (by decide) | omega) ?_))))))
  have sr11 : rng (sc xs (i + 1)) := sc_rng
  refine z_aload_n X (x := q1) rfl (List.Mem.tail _ (List.Mem.head _)) (z_load X (x := i) rfl (List.Mem.tail _ (List.Mem.tail _ (List.Mem.tail _ (List.Mem.tail _ (List.Mem.tail _ (List.Mem.head _)))))) (z_const X rfl (z_add X rfl (z_sld X S hL rfl (show 0 ≤ (i + 2) ∧ (i + 2) < (L : Int) by first | exact sx_in hi (by decide) | omega) ?_))))
  have sr12 : rng (sc xs (i + 2)) := sc_rng
  refine z_callV X 179 (rm := rmN 291) (As := [.int (Int32.ofInt (sc xs (i + 1))), .int (Int32.ofInt (sc xs (i + 2)))]) (st := []) rfl rfl (by decide) rfl (by rw [E.1, E.2.1, E.2.2.1]; exact k_worth G Is9 JRLx_s9 (by first | exact ⟨sr11.1, sr11.2⟩ | omega) (by first | exact ⟨sr12.1, sr12.2⟩ | omega)) ⟨by rw [E.2.2.2]; exact (show 41 + 1 ≤ 2048 from oq_2c2f0271), by rw [E.2.2.2]; exact (show 8 + (6 + 11) + 1663 ≤ 84000 from oq_b102b2ee), by rw [E.2.2.2]; exact (show (ce + 3) + 0 ≤ 601024 by omega), by rw [E.2.2.2]; exact (show (sl + 18) + 0 ≤ 7293034 by omega)⟩ (Nat.le_of_ble_eq_true rfl) (fun vv s13 hq => ?_) (fun ee s13 hq => ?_)
  rotate_left
  · obtain ⟨Is13, Fs13, JRLx_s13, e14, hv, hrs13, hps13⟩ := hq; cases hv
  obtain ⟨Is13, Fs13, JRLx_s13, e14, hv, hrs13, hps13⟩ := hq
  cases hv
  have Gs13 := fm_tq Gs9 Fs13 rfl rfl
  have JRLx_s13 : RLx s13 := RLx_fm Fs13 (by decide) JRLx_s9
  have JFEQ_s13 : FEQ s13 := FEQ_fm Fs13 (by decide) JFEQ_s9
  have ws13_0 : iI s13 0 = iI s9 0 := fm_iq Fs13 rfl
  have ws13_74 : iI s13 74 = iI s9 74 := fm_iq Fs13 rfl
  have ws13_9 : iI s13 9 = iI s9 9 := fm_iq Fs13 rfl
  have ws13_90 : iI s13 90 = iI s9 90 := fm_iq Fs13 rfl
  have ws13_12 : iI s13 12 = iI s9 12 := fm_iq Fs13 rfl
  have ws13_89 : iI s13 89 = iI s9 89 := fm_iq Fs13 rfl
  have wos13 : iO s13 = iO s9 := fm_o Fs13 (by decide)
  show WS k 1793 [(5, .int (Int32.ofInt e10)), (0, .ref q1), (1, .ref (A 0)), (2, .ref (A 179)), (3, .ref (A 517)), (4, .int (Int32.ofInt i))] [.int (Int32.ofInt e14)] (Wd A dT s13) (ce + 3) (sl + 18)
  refine z_store X (lv' := [(6, .int (Int32.ofInt e14)), (5, .int (Int32.ofInt e10)), (0, .ref q1), (1, .ref (A 0)), (2, .ref (A 179)), (3, .ref (A 517)), (4, .int (Int32.ofInt i))]) rfl (by decide) (fun _ h => h) (z_goto X (t := 1877) rfl rfl (w_widen (ce' := ce + 29) (sl' := sl + 222) (by first | exact Nat.le_add_right _ _ | exact Nat.add_le_add_left (by decide) _ | omega) (by first | exact Nat.le_add_right _ _ | exact Nat.add_le_add_left (by decide) _ | omega) ?_))
  exact WS_lv (lv := [(0, .ref q1), (1, .ref (A 0)), (2, .ref (A 179)), (3, .ref (A 517)), (4, .int (Int32.ofInt i))]) (List.forall_mem_cons.mpr ⟨(List.Mem.tail _ (List.Mem.tail _ (List.Mem.head _))), (List.forall_mem_cons.mpr ⟨(List.Mem.tail _ (List.Mem.tail _ (List.Mem.tail _ (List.Mem.head _)))), (List.forall_mem_cons.mpr ⟨(List.Mem.tail _ (List.Mem.tail _ (List.Mem.tail _ (List.Mem.tail _ (List.Mem.head _))))), (List.forall_mem_cons.mpr ⟨(List.Mem.tail _ (List.Mem.tail _ (List.Mem.tail _ (List.Mem.tail _ (List.Mem.tail _ (List.Mem.head _)))))), (List.forall_mem_cons.mpr ⟨(List.Mem.tail _ (List.Mem.tail _ (List.Mem.tail _ (List.Mem.tail _ (List.Mem.tail _ (List.Mem.tail _ (List.Mem.head _))))))), (fun q h => absurd h List.not_mem_nil)⟩)⟩)⟩)⟩)⟩) (hk A _ Is13 JRLx_s13 JFEQ_s13 (by first | exact oq_f34933ba ws13_89 ws9_89 p1 b6.1 | omega) (by first | exact oq_d7ce4408 ws13_12 ws9_12 p2 | omega) (by first | exact oq_5bcdc35f ws13_74 ws13_0 ws9_74 ws9_0 p3 | omega) (by first | exact oq_5bcdc35f ws13_90 ws13_9 ws9_90 ws9_9 p4 | omega))
theorem lc_40 (G : GX l s0 D tys a0 dT) (GR : RS0 s0) (SF : SF0 s0) (GT : TXs0 s0) {k : kx_T} (X : AX k 350 dT) (E : kL k = l ∧ kS0 k = s0 ∧ kD k = D ∧ kR k = room_1) {q1 L : Nat} {xs : Nat → Int32} (S : SX k q1 L xs) (hL : L ≤ 3072) (I : Bd s) (jR : RLx s) (jFEQ : FEQ s) (p1 : iI s 89 = 1) (p2 : iI s 12 ≤ 8) (p3 : iI s 0 = iI s 74) (p4 : iI s 9 = iI s 90) {i : Int} (hi : 0 ≤ i ∧ i + 6 ≤ (L : Int)) {ce sl : Nat} (hce : ce + 29 ≤ 601024) (hsl : sl + 222 ≤ 7293034) (hk : ∀ (A : Nat → Nat) (t : PS), Bd t → RLx t → FEQ t → iI t 89 = 1 → iI t 12 ≤ 8 → iI t 0 = iI t 74 → iI t 9 = iI t 90 → WS k 1877 [(0, .ref q1), (1, .ref (A 0)), (2, .ref (A 179)), (3, .ref (A 517)), (4, .int (Int32.ofInt i))] [] (Wd A dT t) (ce + 29) (sl + 222)) : WS k 1798 [(0, .ref q1), (1, .ref (A 0)), (2, .ref (A 179)), (3, .ref (A 517)), (4, .int (Int32.ofInt i))] [] (Wd A dT s) ce sl := by
  have F : Fm [73] [1460] s s := fm_rf _ _ s
  have b1 := bi_0 I
  have b2 := bi_74 I
  have b3 := bi_9 I
  have b4 := bi_90 I
  have b5 := bi_12 I
  have b6 := bi_89 I
  refine z_aload_n X (x := A 0) rfl (List.Mem.tail _ (List.Mem.head _)) (z_aload_n X (x := q1) rfl (List.Mem.head _) (z_load X (x := i) rfl (List.Mem.tail _ (List.Mem.tail _ (List.Mem.tail _ (List.Mem.tail _ (List.Mem.head _))))) (z_const X rfl (z_add X rfl (z_sld X S hL rfl (show 0 ≤ (i + 1) ∧ (i + 1) < (L : Int) by first | exact sx_in hi (by decide) | omega) ?_)))))
  have sr7 : rng (sc xs (i + 1)) := sc_rng
  refine z_aload_n X (x := A 517) rfl (List.Mem.tail _ (List.Mem.tail _ (List.Mem.tail _ (List.Mem.head _)))) (z_callL X (rm := rmN 349) (As := [.ref (A 0), .int (Int32.ofInt (sc xs (i + 1))), .ref (A 517)]) (st := []) rfl (by decide) rfl (by rw [E.1, E.2.1, E.2.2.1]; exact lw_quiet G I (by omega)) ⟨by rw [E.2.2.2]; exact (show 9 + 1 ≤ 2048 by decide), by rw [E.2.2.2]; exact (show 8 + (4 + 11) + 166 ≤ 84000 by decide), by rw [E.2.2.2]; exact (show ce + 1 ≤ 601024 by first | exact rmo_1 hce (by decide) | exact rmo_2 hce (by decide) | omega), by rw [E.2.2.2]; exact (show sl + 6 ≤ 7293034 by first | exact rmo_1 hsl (by decide) | exact rmo_2 hsl (by decide) | omega)⟩ (Nat.le_of_ble_eq_true rfl) (fun vv A s8 hA2 hq => ?_) (fun ee A s8 hA2 hq => ?_))
  rotate_left
  · obtain ⟨Is8, Fs8, e9, hv, hrs8, hps8⟩ := hq; cases hv
  obtain ⟨Is8, Fs8, e9, hv, hrs8, hps8⟩ := hq
  cases hv
  rw [← hA2 0 (by decide)]
  rw [← hA2 179 (by decide)]
  rw [← hA2 517 (by decide)]
  have Gs8 := fm_tq F Fs8 rfl rfl
  have JRLx_s8 : RLx s8 := RLx_fm Fs8 (by decide) jR
  have JFEQ_s8 : FEQ s8 := FEQ_fm Fs8 (by decide) jFEQ
  have ws8_0 : iI s8 0 = iI s 0 := fm_iq Fs8 rfl
  have ws8_74 : iI s8 74 = iI s 74 := fm_iq Fs8 rfl
  have ws8_9 : iI s8 9 = iI s 9 := fm_iq Fs8 rfl
  have ws8_90 : iI s8 90 = iI s 90 := fm_iq Fs8 rfl
  have ws8_12 : iI s8 12 = iI s 12 := fm_iq Fs8 rfl
  have ws8_89 : iI s8 89 = iI s 89 := fm_iq Fs8 rfl
  show WS k 1809 [(0, .ref q1), (1, .ref (A 0)), (2, .ref (A 179)), (3, .ref (A 517)), (4, .int (Int32.ofInt i))] [.int (Int32.ofInt e9)] (Wd A dT s8) (ce + 1) (sl + 6)
  refine z_store X (lv' := [(5, .int (Int32.ofInt e9)), (0, .ref q1), (1, .ref (A 0)), (2, .ref (A 179)), (3, .ref (A 517)), (4, .int (Int32.ofInt i))]) rfl (by decide) (fun _ h => h) (z_aload_n X (x := A 179) rfl (List.Mem.tail _ (List.Mem.tail _ (List.Mem.tail _ (List.Mem.head _)))) (z_aload_n X (x := q1) rfl (List.Mem.tail _ (List.Mem.head _)) (z_load X (x := i) rfl (List.Mem.tail _ (List.Mem.tail _ (List.Mem.tail _ (List.Mem.tail _ (List.Mem.tail _ (List.Mem.head _)))))) (z_const X rfl (z_add X rfl (z_sld X S hL rfl (show 0 ≤ (i + 1) ∧ (i + 1) < (L : Int) by first | exact sx_in hi (by decide) | omega) ?_))))))
  have sr10 : rng (sc xs (i + 1)) := sc_rng
  refine z_callV X 179 (rm := rmN 292) (As := [.int (Int32.ofInt (sc xs (i + 1)))]) (st := []) rfl rfl (by decide) rfl (by rw [E.1, E.2.1, E.2.2.1]; exact k_quiet G Is8 (by first | exact ⟨sr10.1, sr10.2⟩ | omega)) ⟨by rw [E.2.2.2]; exact (show 7 + 1 ≤ 2048 from oq_4e6106eb), by rw [E.2.2.2]; exact (show 8 + (4 + 11) + 123 ≤ 84000 from oq_24286ecc), by rw [E.2.2.2]; exact (show (ce + 1) + 0 ≤ 601024 by omega), by rw [E.2.2.2]; exact (show (sl + 6) + 0 ≤ 7293034 by omega)⟩ (Nat.le_of_ble_eq_true rfl) (fun vv s11 hq => ?_) (fun ee s11 hq => ?_)
  rotate_left
  · obtain ⟨Is11, Fs11, e12, hv, hrs11, hps11⟩ := hq; cases hv
  obtain ⟨Is11, Fs11, e12, hv, hrs11, hps11⟩ := hq
  cases hv
  have Gs11 := fm_tq Gs8 Fs11 rfl rfl
  have JRLx_s11 : RLx s11 := RLx_fm Fs11 (by decide) JRLx_s8
  have JFEQ_s11 : FEQ s11 := FEQ_fm Fs11 (by decide) JFEQ_s8
  have ws11_0 : iI s11 0 = iI s8 0 := fm_iq Fs11 rfl
  have ws11_74 : iI s11 74 = iI s8 74 := fm_iq Fs11 rfl
  have ws11_9 : iI s11 9 = iI s8 9 := fm_iq Fs11 rfl
  have ws11_90 : iI s11 90 = iI s8 90 := fm_iq Fs11 rfl
  have ws11_12 : iI s11 12 = iI s8 12 := fm_iq Fs11 rfl
  have ws11_89 : iI s11 89 = iI s8 89 := fm_iq Fs11 rfl
  have wos11 : iO s11 = iO s8 := fm_o Fs11 (by decide)
  show WS k 1821 [(5, .int (Int32.ofInt e9)), (0, .ref q1), (1, .ref (A 0)), (2, .ref (A 179)), (3, .ref (A 517)), (4, .int (Int32.ofInt i))] [.int (Int32.ofInt e12)] (Wd A dT s11) (ce + 1) (sl + 6)
  refine z_store X (lv' := [(6, .int (Int32.ofInt e12)), (5, .int (Int32.ofInt e9)), (0, .ref q1), (1, .ref (A 0)), (2, .ref (A 179)), (3, .ref (A 517)), (4, .int (Int32.ofInt i))]) rfl (by decide) (fun _ h => h) (z_goto X (t := 1877) rfl rfl (w_widen (ce' := ce + 29) (sl' := sl + 222) (by first | exact Nat.le_add_right _ _ | exact Nat.add_le_add_left (by decide) _ | omega) (by first | exact Nat.le_add_right _ _ | exact Nat.add_le_add_left (by decide) _ | omega) ?_))
  exact WS_lv (lv := [(0, .ref q1), (1, .ref (A 0)), (2, .ref (A 179)), (3, .ref (A 517)), (4, .int (Int32.ofInt i))]) (List.forall_mem_cons.mpr ⟨(List.Mem.tail _ (List.Mem.tail _ (List.Mem.head _))), (List.forall_mem_cons.mpr ⟨(List.Mem.tail _ (List.Mem.tail _ (List.Mem.tail _ (List.Mem.head _)))), (List.forall_mem_cons.mpr ⟨(List.Mem.tail _ (List.Mem.tail _ (List.Mem.tail _ (List.Mem.tail _ (List.Mem.head _))))), (List.forall_mem_cons.mpr ⟨(List.Mem.tail _ (List.Mem.tail _ (List.Mem.tail _ (List.Mem.tail _ (List.Mem.tail _ (List.Mem.head _)))))), (List.forall_mem_cons.mpr ⟨(List.Mem.tail _ (List.Mem.tail _ (List.Mem.tail _ (List.Mem.tail _ (List.Mem.tail _ (List.Mem.tail _ (List.Mem.head _))))))), (fun q h => absurd h List.not_mem_nil)⟩)⟩)⟩)⟩)⟩) (hk A _ Is11 JRLx_s11 JFEQ_s11 (by first | exact oq_f34933ba ws11_89 ws8_89 p1 b6.1 | omega) (by first | exact oq_d7ce4408 ws11_12 ws8_12 p2 | omega) (by first | exact oq_5bcdc35f ws11_74 ws11_0 ws8_74 ws8_0 p3 | omega) (by first | exact oq_5bcdc35f ws11_90 ws11_9 ws8_90 ws8_9 p4 | omega))
theorem lc_41 (G : GX l s0 D tys a0 dT) (GR : RS0 s0) (SF : SF0 s0) (GT : TXs0 s0) {k : kx_T} (X : AX k 350 dT) (E : kL k = l ∧ kS0 k = s0 ∧ kD k = D ∧ kR k = room_1) {q1 L : Nat} {xs : Nat → Int32} (S : SX k q1 L xs) (hL : L ≤ 3072) (I : Bd s) (jR : RLx s) (jFEQ : FEQ s) (p1 : iI s 89 = 1) (p2 : iI s 12 ≤ 8) (p3 : iI s 0 = iI s 74) (p4 : iI s 9 = iI s 90) {i : Int} (hi : 0 ≤ i ∧ i + 6 ≤ (L : Int)) {ce sl : Nat} (hce : ce + 29 ≤ 601024) (hsl : sl + 222 ≤ 7293034) (hk : ∀ (A : Nat → Nat) (t : PS), Bd t → RLx t → FEQ t → iI t 89 = 1 → iI t 12 ≤ 8 → iI t 0 = iI t 74 → iI t 9 = iI t 90 → WS k 1877 [(0, .ref q1), (1, .ref (A 0)), (2, .ref (A 179)), (3, .ref (A 517)), (4, .int (Int32.ofInt i))] [] (Wd A dT t) (ce + 29) (sl + 222)) : WS k 1826 [(0, .ref q1), (1, .ref (A 0)), (2, .ref (A 179)), (3, .ref (A 517)), (4, .int (Int32.ofInt i))] [] (Wd A dT s) ce sl := by
  have F : Fm [20, 73, 98] [25, 241, 242, 243, 244] s s := fm_rf _ _ s
  have b1 := bi_0 I
  have b2 := bi_74 I
  have b3 := bi_9 I
  have b4 := bi_90 I
  have b5 := bi_12 I
  have b6 := bi_89 I
  refine z_aload_n X (x := A 0) rfl (List.Mem.tail _ (List.Mem.head _)) (z_callV X 0 (rm := rmN 176) (As := []) (st := []) rfl rfl (by decide) rfl (by rw [E.1, E.2.1, E.2.2.1]; exact cs_mark G I ) ⟨by rw [E.2.2.2]; exact (show 7 + 1 ≤ 2048 from oq_4e6106eb), by rw [E.2.2.2]; exact (show 8 + (1 + 11) + 120 ≤ 84000 from oq_23aa4b49), by rw [E.2.2.2]; exact (show ce + 0 ≤ 601024 by omega), by rw [E.2.2.2]; exact (show sl + 0 ≤ 7293034 by omega)⟩ (Nat.le_of_ble_eq_true rfl) (fun vv s7 hq => ?_) (fun ee s7 hq => ?_))
  rotate_left
  · obtain ⟨Is7, Fs7, e8, hv, hrs7, hps7⟩ := hq; cases hv
  obtain ⟨Is7, Fs7, e8, hv, hrs7, hps7⟩ := hq
  cases hv
  have Gs7 := fm_tq F Fs7 rfl rfl
  have JRLx_s7 : RLx s7 := RLx_fm Fs7 (by decide) jR
  have JFEQ_s7 : FEQ s7 := FEQ_fm Fs7 (by decide) jFEQ
  have ws7_0 : iI s7 0 = iI s 0 := fm_iq Fs7 rfl
  have ws7_74 : iI s7 74 = iI s 74 := fm_iq Fs7 rfl
  have ws7_9 : iI s7 9 = iI s 9 := fm_iq Fs7 rfl
  have ws7_90 : iI s7 90 = iI s 90 := fm_iq Fs7 rfl
  have ws7_12 : iI s7 12 = iI s 12 := fm_iq Fs7 rfl
  have ws7_89 : iI s7 89 = iI s 89 := fm_iq Fs7 rfl
  have wos7 : iO s7 = iO s := fm_o Fs7 (by decide)
  show WS k 1830 [(0, .ref q1), (1, .ref (A 0)), (2, .ref (A 179)), (3, .ref (A 517)), (4, .int (Int32.ofInt i))] [.int (Int32.ofInt e8)] (Wd A dT s7) ce sl
  refine w_pop X.1 (ax_d X (show cdA 350 1830 = some (.pop, 1, 0, 0, 0) from rfl)) rfl (z_aload_n X (x := A 179) rfl (List.Mem.tail _ (List.Mem.tail _ (List.Mem.head _))) (z_callV X 179 (rm := rmN 293) (As := []) (st := []) rfl rfl (by decide) rfl (by rw [E.1, E.2.1, E.2.2.1]; exact k_mark G Is7 ) ⟨by rw [E.2.2.2]; exact (show 6 + 1 ≤ 2048 from oq_4d34cb53), by rw [E.2.2.2]; exact (show 8 + (2 + 11) + 100 ≤ 84000 from oq_8731b8c0), by rw [E.2.2.2]; exact (show ce + 0 ≤ 601024 by omega), by rw [E.2.2.2]; exact (show sl + 0 ≤ 7293034 by omega)⟩ (Nat.le_of_ble_eq_true rfl) (fun vv s9 hq => ?_) (fun ee s9 hq => ?_)))
  rotate_left
  · obtain ⟨Is9, Fs9, e10, hv, hrs9, hps9⟩ := hq; cases hv
  obtain ⟨Is9, Fs9, e10, hv, hrs9, hps9⟩ := hq
  cases hv
  have Gs9 := fm_tq Gs7 Fs9 rfl rfl
  have JRLx_s9 : RLx s9 := RLx_fm Fs9 (by decide) JRLx_s7
  have JFEQ_s9 : FEQ s9 := FEQ_fm Fs9 (by decide) JFEQ_s7
  have ws9_0 : iI s9 0 = iI s7 0 := fm_iq Fs9 rfl
  have ws9_74 : iI s9 74 = iI s7 74 := fm_iq Fs9 rfl
  have ws9_9 : iI s9 9 = iI s7 9 := fm_iq Fs9 rfl
  have ws9_90 : iI s9 90 = iI s7 90 := fm_iq Fs9 rfl
  have ws9_12 : iI s9 12 = iI s7 12 := fm_iq Fs9 rfl
  have ws9_89 : iI s9 89 = iI s7 89 := fm_iq Fs9 rfl
  have wos9 : iO s9 = iO s7 := fm_o Fs9 (by decide)
  show WS k 1835 [(0, .ref q1), (1, .ref (A 0)), (2, .ref (A 179)), (3, .ref (A 517)), (4, .int (Int32.ofInt i))] [.int (Int32.ofInt e10)] (Wd A dT s9) ce sl
  refine w_pop X.1 (ax_d X (show cdA 350 1835 = some (.pop, 1, 0, 0, 0) from rfl)) rfl (z_goto X (t := 1877) rfl rfl (w_widen (ce' := ce + 29) (sl' := sl + 222) (by first | exact Nat.le_add_right _ _ | exact Nat.add_le_add_left (by decide) _ | omega) (by first | exact Nat.le_add_right _ _ | exact Nat.add_le_add_left (by decide) _ | omega) ?_))
  exact WS_lv (lv := [(0, .ref q1), (1, .ref (A 0)), (2, .ref (A 179)), (3, .ref (A 517)), (4, .int (Int32.ofInt i))]) (List.forall_mem_cons.mpr ⟨(List.Mem.head _), (List.forall_mem_cons.mpr ⟨(List.Mem.tail _ (List.Mem.head _)), (List.forall_mem_cons.mpr ⟨(List.Mem.tail _ (List.Mem.tail _ (List.Mem.head _))), (List.forall_mem_cons.mpr ⟨(List.Mem.tail _ (List.Mem.tail _ (List.Mem.tail _ (List.Mem.head _)))), (List.forall_mem_cons.mpr ⟨(List.Mem.tail _ (List.Mem.tail _ (List.Mem.tail _ (List.Mem.tail _ (List.Mem.head _))))), (fun q h => absurd h List.not_mem_nil)⟩)⟩)⟩)⟩)⟩) (hk A _ Is9 JRLx_s9 JFEQ_s9 (by first | exact oq_f34933ba ws9_89 ws7_89 p1 b6.1 | omega) (by first | exact oq_d7ce4408 ws9_12 ws7_12 p2 | omega) (by first | exact oq_5bcdc35f ws9_74 ws9_0 ws7_74 ws7_0 p3 | omega) (by first | exact oq_5bcdc35f ws9_90 ws9_9 ws7_90 ws7_9 p4 | omega))
theorem lc_42 (G : GX l s0 D tys a0 dT) (GR : RS0 s0) (SF : SF0 s0) (GT : TXs0 s0) {k : kx_T} (X : AX k 350 dT) (E : kL k = l ∧ kS0 k = s0 ∧ kD k = D ∧ kR k = room_1) {q1 L : Nat} {xs : Nat → Int32} (S : SX k q1 L xs) (hL : L ≤ 3072) (I : Bd s) (jR : RLx s) (jFEQ : FEQ s) (p1 : iI s 89 = 1) (p2 : iI s 12 ≤ 8) (p3 : iI s 0 = iI s 74) (p4 : iI s 9 = iI s 90) {i : Int} (hi : 0 ≤ i ∧ i + 6 ≤ (L : Int)) {ce sl : Nat} (hce : ce + 29 ≤ 601024) (hsl : sl + 222 ≤ 7293034) (hk : ∀ (A : Nat → Nat) (t : PS), Bd t → RLx t → FEQ t → iI t 89 = 1 → iI t 12 ≤ 8 → iI t 0 = iI t 74 → iI t 9 = iI t 90 → WS k 1877 [(0, .ref q1), (1, .ref (A 0)), (2, .ref (A 179)), (3, .ref (A 517)), (4, .int (Int32.ofInt i))] [] (Wd A dT t) (ce + 29) (sl + 222)) : WS k 1839 [(0, .ref q1), (1, .ref (A 0)), (2, .ref (A 179)), (3, .ref (A 517)), (4, .int (Int32.ofInt i))] [] (Wd A dT s) ce sl := by
  have F : Fm [20, 73, 98] [21, 1022, 1023, 228] s s := fm_rf _ _ s
  have b1 := bi_0 I
  have b2 := bi_74 I
  have b3 := bi_9 I
  have b4 := bi_90 I
  have b5 := bi_12 I
  have b6 := bi_89 I
  refine z_aload_n X (x := A 0) rfl (List.Mem.tail _ (List.Mem.head _)) (z_callV X 0 (rm := rmN 177) (As := []) (st := []) rfl rfl (by decide) rfl (by rw [E.1, E.2.1, E.2.2.1]; exact cs_back G I ) ⟨by rw [E.2.2.2]; exact (show 8 + 1 ≤ 2048 from oq_5bf2829b), by rw [E.2.2.2]; exact (show 8 + (1 + 11) + 147 ≤ 84000 from oq_6fd3db4b), by rw [E.2.2.2]; exact (show ce + 0 ≤ 601024 by omega), by rw [E.2.2.2]; exact (show sl + 0 ≤ 7293034 by omega)⟩ (Nat.le_of_ble_eq_true rfl) (fun vv s7 hq => ?_) (fun ee s7 hq => ?_))
  rotate_left
  · obtain ⟨Is7, Fs7, e8, hv, hrs7, hps7⟩ := hq; cases hv
  obtain ⟨Is7, Fs7, e8, hv, hrs7, hps7⟩ := hq
  cases hv
  have Gs7 := fm_tq F Fs7 rfl rfl
  have JRLx_s7 : RLx s7 := RLx_fm Fs7 (by decide) jR
  have JFEQ_s7 : FEQ s7 := FEQ_fm Fs7 (by decide) jFEQ
  have ws7_0 : iI s7 0 = iI s 0 := fm_iq Fs7 rfl
  have ws7_74 : iI s7 74 = iI s 74 := fm_iq Fs7 rfl
  have ws7_9 : iI s7 9 = iI s 9 := fm_iq Fs7 rfl
  have ws7_90 : iI s7 90 = iI s 90 := fm_iq Fs7 rfl
  have ws7_12 : iI s7 12 = iI s 12 := fm_iq Fs7 rfl
  have ws7_89 : iI s7 89 = iI s 89 := fm_iq Fs7 rfl
  have wos7 : iO s7 = iO s := fm_o Fs7 (by decide)
  show WS k 1843 [(0, .ref q1), (1, .ref (A 0)), (2, .ref (A 179)), (3, .ref (A 517)), (4, .int (Int32.ofInt i))] [.int (Int32.ofInt e8)] (Wd A dT s7) ce sl
  refine w_pop X.1 (ax_d X (show cdA 350 1843 = some (.pop, 1, 0, 0, 0) from rfl)) rfl (z_aload_n X (x := A 179) rfl (List.Mem.tail _ (List.Mem.tail _ (List.Mem.head _))) (z_callV X 179 (rm := rmN 294) (As := []) (st := []) rfl rfl (by decide) rfl (by rw [E.1, E.2.1, E.2.2.1]; exact k_back G Is7 ) ⟨by rw [E.2.2.2]; exact (show 6 + 1 ≤ 2048 from oq_4d34cb53), by rw [E.2.2.2]; exact (show 8 + (2 + 11) + 100 ≤ 84000 from oq_8731b8c0), by rw [E.2.2.2]; exact (show ce + 0 ≤ 601024 by omega), by rw [E.2.2.2]; exact (show sl + 0 ≤ 7293034 by omega)⟩ (Nat.le_of_ble_eq_true rfl) (fun vv s9 hq => ?_) (fun ee s9 hq => ?_)))
  rotate_left
  · obtain ⟨Is9, Fs9, e10, hv, hrs9, hps9⟩ := hq; cases hv
  obtain ⟨Is9, Fs9, e10, hv, hrs9, hps9⟩ := hq
  cases hv
  have Gs9 := fm_tq Gs7 Fs9 rfl rfl
  have JRLx_s9 : RLx s9 := RLx_fm Fs9 (by decide) JRLx_s7
  have JFEQ_s9 : FEQ s9 := FEQ_fm Fs9 (by decide) JFEQ_s7
  have ws9_0 : iI s9 0 = iI s7 0 := fm_iq Fs9 rfl
  have ws9_74 : iI s9 74 = iI s7 74 := fm_iq Fs9 rfl
  have ws9_9 : iI s9 9 = iI s7 9 := fm_iq Fs9 rfl
  have ws9_90 : iI s9 90 = iI s7 90 := fm_iq Fs9 rfl
  have ws9_12 : iI s9 12 = iI s7 12 := fm_iq Fs9 rfl
  have ws9_89 : iI s9 89 = iI s7 89 := fm_iq Fs9 rfl
  have wos9 : iO s9 = iO s7 := fm_o Fs9 (by decide)
  show WS k 1848 [(0, .ref q1), (1, .ref (A 0)), (2, .ref (A 179)), (3, .ref (A 517)), (4, .int (Int32.ofInt i))] [.int (Int32.ofInt e10)] (Wd A dT s9) ce sl
  refine w_pop X.1 (ax_d X (show cdA 350 1848 = some (.pop, 1, 0, 0, 0) from rfl)) rfl (z_goto X (t := 1877) rfl rfl (w_widen (ce' := ce + 29) (sl' := sl + 222) (by first | exact Nat.le_add_right _ _ | exact Nat.add_le_add_left (by decide) _ | omega) (by first | exact Nat.le_add_right _ _ | exact Nat.add_le_add_left (by decide) _ | omega) ?_))
  exact WS_lv (lv := [(0, .ref q1), (1, .ref (A 0)), (2, .ref (A 179)), (3, .ref (A 517)), (4, .int (Int32.ofInt i))]) (List.forall_mem_cons.mpr ⟨(List.Mem.head _), (List.forall_mem_cons.mpr ⟨(List.Mem.tail _ (List.Mem.head _)), (List.forall_mem_cons.mpr ⟨(List.Mem.tail _ (List.Mem.tail _ (List.Mem.head _))), (List.forall_mem_cons.mpr ⟨(List.Mem.tail _ (List.Mem.tail _ (List.Mem.tail _ (List.Mem.head _)))), (List.forall_mem_cons.mpr ⟨(List.Mem.tail _ (List.Mem.tail _ (List.Mem.tail _ (List.Mem.tail _ (List.Mem.head _))))), (fun q h => absurd h List.not_mem_nil)⟩)⟩)⟩)⟩)⟩) (hk A _ Is9 JRLx_s9 JFEQ_s9 (by first | exact oq_f34933ba ws9_89 ws7_89 p1 b6.1 | omega) (by first | exact oq_d7ce4408 ws9_12 ws7_12 p2 | omega) (by first | exact oq_5bcdc35f ws9_74 ws9_0 ws7_74 ws7_0 p3 | omega) (by first | exact oq_5bcdc35f ws9_90 ws9_9 ws7_90 ws7_9 p4 | omega))
theorem lc_43 (G : GX l s0 D tys a0 dT) (GR : RS0 s0) (SF : SF0 s0) (GT : TXs0 s0) {k : kx_T} (X : AX k 350 dT) (E : kL k = l ∧ kS0 k = s0 ∧ kD k = D ∧ kR k = room_1) {q1 L : Nat} {xs : Nat → Int32} (S : SX k q1 L xs) (hL : L ≤ 3072) (I : Bd s) (jR : RLx s) (jFEQ : FEQ s) (p1 : iI s 89 = 1) (p2 : iI s 12 ≤ 8) (p3 : iI s 0 = iI s 74) (p4 : iI s 9 = iI s 90) {i : Int} (hi : 0 ≤ i ∧ i + 6 ≤ (L : Int)) {ce sl : Nat} (hce : ce + 29 ≤ 601024) (hsl : sl + 222 ≤ 7293034) (hk : ∀ (A : Nat → Nat) (t : PS), Bd t → RLx t → FEQ t → iI t 89 = 1 → iI t 12 ≤ 8 → iI t 0 = iI t 74 → iI t 9 = iI t 90 → WS k 1877 [(0, .ref q1), (1, .ref (A 0)), (2, .ref (A 179)), (3, .ref (A 517)), (4, .int (Int32.ofInt i))] [] (Wd A dT t) (ce + 29) (sl + 222)) : WS k 1852 [(0, .ref q1), (1, .ref (A 0)), (2, .ref (A 179)), (3, .ref (A 517)), (4, .int (Int32.ofInt i))] [] (Wd A dT s) ce sl := by
  have F : Fm [73] [] s s := fm_rf _ _ s
  have b1 := bi_0 I
  have b2 := bi_74 I
  have b3 := bi_9 I
  have b4 := bi_90 I
  have b5 := bi_12 I
  have b6 := bi_89 I
  refine z_aload_n X (x := A 0) rfl (List.Mem.tail _ (List.Mem.head _)) (z_aload_n X (x := q1) rfl (List.Mem.head _) (z_load X (x := i) rfl (List.Mem.tail _ (List.Mem.tail _ (List.Mem.tail _ (List.Mem.tail _ (List.Mem.head _))))) (z_const X rfl (z_add X rfl (z_sld X S hL rfl (show 0 ≤ (i + 1) ∧ (i + 1) < (L : Int) by first | exact sx_in hi (by decide) | omega) ?_)))))
  have sr7 : rng (sc xs (i + 1)) := sc_rng
  refine z_callV X 0 (rm := rmN 178) (As := [.int (Int32.ofInt (sc xs (i + 1)))]) (st := []) rfl rfl (by decide) rfl (by rw [E.1, E.2.1, E.2.2.1]; exact cs_count G I (by first | exact ⟨sr7.1, sr7.2⟩ | omega)) ⟨by rw [E.2.2.2]; exact (show 8 + 1 ≤ 2048 from oq_5bf2829b), by rw [E.2.2.2]; exact (show 8 + (2 + 11) + 143 ≤ 84000 from oq_ca72eefc), by rw [E.2.2.2]; exact (show ce + 0 ≤ 601024 by omega), by rw [E.2.2.2]; exact (show sl + 0 ≤ 7293034 by omega)⟩ (Nat.le_of_ble_eq_true rfl) (fun vv s8 hq => ?_) (fun ee s8 hq => ?_)
  rotate_left
  · obtain ⟨Is8, Fs8, e9, hv, hrs8, hps8⟩ := hq; cases hv
  obtain ⟨Is8, Fs8, e9, hv, hrs8, hps8⟩ := hq
  cases hv
  have Gs8 := fm_tq F Fs8 rfl rfl
  have JRLx_s8 : RLx s8 := RLx_fm Fs8 (by decide) jR
  have JFEQ_s8 : FEQ s8 := FEQ_fm Fs8 (by decide) jFEQ
  have ws8_0 : iI s8 0 = iI s 0 := fm_iq Fs8 rfl
  have ws8_74 : iI s8 74 = iI s 74 := fm_iq Fs8 rfl
  have ws8_9 : iI s8 9 = iI s 9 := fm_iq Fs8 rfl
  have ws8_90 : iI s8 90 = iI s 90 := fm_iq Fs8 rfl
  have ws8_12 : iI s8 12 = iI s 12 := fm_iq Fs8 rfl
  have ws8_89 : iI s8 89 = iI s 89 := fm_iq Fs8 rfl
  have wos8 : iO s8 = iO s := fm_o Fs8 (by decide)
  show WS k 1862 [(0, .ref q1), (1, .ref (A 0)), (2, .ref (A 179)), (3, .ref (A 517)), (4, .int (Int32.ofInt i))] [.int (Int32.ofInt e9)] (Wd A dT s8) ce sl
  refine w_pop X.1 (ax_d X (show cdA 350 1862 = some (.pop, 1, 0, 0, 0) from rfl)) rfl (z_aload_n X (x := A 179) rfl (List.Mem.tail _ (List.Mem.tail _ (List.Mem.head _))) (z_aload_n X (x := q1) rfl (List.Mem.head _) (z_load X (x := i) rfl (List.Mem.tail _ (List.Mem.tail _ (List.Mem.tail _ (List.Mem.tail _ (List.Mem.head _))))) (z_const X rfl (z_add X rfl (z_sld X S hL rfl (show 0 ≤ (i + 1) ∧ (i + 1) < (L : Int) by first | exact sx_in hi (by decide) | omega) ?_))))))
  have sr10 : rng (sc xs (i + 1)) := sc_rng
  refine z_callV X 179 (rm := rmN 295) (As := [.int (Int32.ofInt (sc xs (i + 1)))]) (st := []) rfl rfl (by decide) rfl (by rw [E.1, E.2.1, E.2.2.1]; exact k_count G Is8 (by first | exact ⟨sr10.1, sr10.2⟩ | omega)) ⟨by rw [E.2.2.2]; exact (show 7 + 1 ≤ 2048 from oq_4e6106eb), by rw [E.2.2.2]; exact (show 8 + (6 + 11) + 122 ≤ 84000 from oq_380e4f97), by rw [E.2.2.2]; exact (show ce + 0 ≤ 601024 by omega), by rw [E.2.2.2]; exact (show sl + 0 ≤ 7293034 by omega)⟩ (Nat.le_of_ble_eq_true rfl) (fun vv s11 hq => ?_) (fun ee s11 hq => ?_)
  rotate_left
  · obtain ⟨Is11, Fs11, e12, hv, hrs11, hps11⟩ := hq; cases hv
  obtain ⟨Is11, Fs11, e12, hv, hrs11, hps11⟩ := hq
  cases hv
  have Gs11 := fm_tq Gs8 Fs11 rfl rfl
  have JRLx_s11 : RLx s11 := RLx_fm Fs11 (by decide) JRLx_s8
  have JFEQ_s11 : FEQ s11 := FEQ_fm Fs11 (by decide) JFEQ_s8
  have ws11_0 : iI s11 0 = iI s8 0 := fm_iq Fs11 rfl
  have ws11_74 : iI s11 74 = iI s8 74 := fm_iq Fs11 rfl
  have ws11_9 : iI s11 9 = iI s8 9 := fm_iq Fs11 rfl
  have ws11_90 : iI s11 90 = iI s8 90 := fm_iq Fs11 rfl
  have ws11_12 : iI s11 12 = iI s8 12 := fm_iq Fs11 rfl
  have ws11_89 : iI s11 89 = iI s8 89 := fm_iq Fs11 rfl
  have wos11 : iO s11 = iO s8 := fm_o Fs11 (by decide)
  show WS k 1873 [(0, .ref q1), (1, .ref (A 0)), (2, .ref (A 179)), (3, .ref (A 517)), (4, .int (Int32.ofInt i))] [.int (Int32.ofInt e12)] (Wd A dT s11) ce sl
  refine w_pop X.1 (ax_d X (show cdA 350 1873 = some (.pop, 1, 0, 0, 0) from rfl)) rfl (z_goto X (t := 1877) rfl rfl (w_widen (ce' := ce + 29) (sl' := sl + 222) (by first | exact Nat.le_add_right _ _ | exact Nat.add_le_add_left (by decide) _ | omega) (by first | exact Nat.le_add_right _ _ | exact Nat.add_le_add_left (by decide) _ | omega) ?_))
  exact WS_lv (lv := [(0, .ref q1), (1, .ref (A 0)), (2, .ref (A 179)), (3, .ref (A 517)), (4, .int (Int32.ofInt i))]) (List.forall_mem_cons.mpr ⟨(List.Mem.head _), (List.forall_mem_cons.mpr ⟨(List.Mem.tail _ (List.Mem.head _)), (List.forall_mem_cons.mpr ⟨(List.Mem.tail _ (List.Mem.tail _ (List.Mem.head _))), (List.forall_mem_cons.mpr ⟨(List.Mem.tail _ (List.Mem.tail _ (List.Mem.tail _ (List.Mem.head _)))), (List.forall_mem_cons.mpr ⟨(List.Mem.tail _ (List.Mem.tail _ (List.Mem.tail _ (List.Mem.tail _ (List.Mem.head _))))), (fun q h => absurd h List.not_mem_nil)⟩)⟩)⟩)⟩)⟩) (hk A _ Is11 JRLx_s11 JFEQ_s11 (by first | exact oq_f34933ba ws11_89 ws8_89 p1 b6.1 | omega) (by first | exact oq_d7ce4408 ws11_12 ws8_12 p2 | omega) (by first | exact oq_5bcdc35f ws11_74 ws11_0 ws8_74 ws8_0 p3 | omega) (by first | exact oq_5bcdc35f ws11_90 ws11_9 ws8_90 ws8_9 p4 | omega))
theorem law_head (G : GX l s0 D tys a0 dT) (GR : RS0 s0) (SF : SF0 s0) (GT : TXs0 s0) {k : kx_T} (X : AX k 350 dT) (E : kL k = l ∧ kS0 k = s0 ∧ kD k = D ∧ kR k = room_1) {q1 L : Nat} {xs : Nat → Int32} (S : SX k q1 L xs) (hL : L ≤ 3072) (hRt : (kMe k).sig.returnType = some .boolean) (q : kx_end k K0 601024 7293034) : ∀ (n m : Nat) (A : Nat → Nat) (s : PS), Bd s → RLx s → FEQ s → iI s 89 = 1 → iI s 12 ≤ 8 → iI s 0 = iI s 74 → iI s 9 = iI s 90 → (L : Int) ≤ 6 * ((m + n : Nat) : Int) + 5 → m ≤ 512 → WS k 23 [(0, .ref q1), (1, .ref (A 0)), (2, .ref (A 179)), (3, .ref (A 517)), (4, .int (Int32.ofInt (6 * (m : Int))))] [] (Wd A dT s) (518 + 29 * m) (23524 + 222 * m) := by
  intro n
  induction n with
  | zero =>
    intro m A s I jR jFEQ p1 p2 p3 p4 hn hm
    refine z_load X (x := (6 * (m : Int))) rfl (List.Mem.tail _ (List.Mem.tail _ (List.Mem.tail _ (List.Mem.tail _ (List.Mem.head _))))) (z_aload_n X (x := q1) rfl (List.Mem.head _) (z_slen X S hL rfl (z_bipush X rfl (z_sub X rfl (z_icmp_gt X (t := 1883) rfl rfl ⟨by omega, by omega⟩ ⟨by omega, by omega⟩ (fun g1 => ?_) (fun g1 => ?_))))))
    ·
      refine z_const X rfl ?_
      exact w_iret X.1 q hRt (nar_ret (Or.inr rfl)) (ax_d X (show cdA 350 1884 = some (.ireturn, 1, 0, 0, 0) from rfl)) (by omega) (by omega) rfl
    ·
      exfalso
      omega
  | succ n ih =>
    intro m A s I jR jFEQ p1 p2 p3 p4 hn hm
    refine z_load X (x := (6 * (m : Int))) rfl (List.Mem.tail _ (List.Mem.tail _ (List.Mem.tail _ (List.Mem.tail _ (List.Mem.head _))))) (z_aload_n X (x := q1) rfl (List.Mem.head _) (z_slen X S hL rfl (z_bipush X rfl (z_sub X rfl (z_icmp_gt X (t := 1883) rfl rfl ⟨by omega, by omega⟩ ⟨by omega, by omega⟩ (fun g1 => ?_) (fun g1 => ?_))))))
    ·
      refine z_const X rfl ?_
      exact w_iret X.1 q hRt (nar_ret (Or.inr rfl)) (ax_d X (show cdA 350 1884 = some (.ireturn, 1, 0, 0, 0) from rfl)) (by omega) (by omega) rfl
    ·
      have hk : ∀ (A : Nat → Nat) (t : PS), Bd t → RLx t → FEQ t → iI t 89 = 1 → iI t 12 ≤ 8 → iI t 0 = iI t 74 → iI t 9 = iI t 90 → WS k 1877 [(0, .ref q1), (1, .ref (A 0)), (2, .ref (A 179)), (3, .ref (A 517)), (4, .int (Int32.ofInt (6 * (m : Int))))] [] (Wd A dT t) (518 + 29 * m + 29) (23524 + 222 * m + 222) := by
        intro A t I jR jFEQ p1 p2 p3 p4
        refine z_inc X (x := (6 * (m : Int))) (lv' := [(4, .int (Int32.ofInt (6 * (m : Int) + 6))), (0, .ref q1), (1, .ref (A 0)), (2, .ref (A 179)), (3, .ref (A 517))]) rfl (by decide) (List.Mem.tail _ (List.Mem.tail _ (List.Mem.tail _ (List.Mem.tail _ (List.Mem.head _))))) (fun _ h => h) (z_goto X (t := 23) rfl rfl ?_)
        have e6 : (6 * (m : Int) + 6) = 6 * ((m + 1 : Nat) : Int) := by omega
        rw [e6]
        refine WS_pq [1, 2, 3, 4, 0] (lv' := [(0, .ref q1), (1, .ref (A 0)), (2, .ref (A 179)), (3, .ref (A 517)), (4, .int (Int32.ofInt (6 * ((m + 1 : Nat) : Int))))]) rfl (w_widen (ce' := 518 + 29 * (m + 1)) (sl' := 23524 + 222 * (m + 1)) (by omega) (by omega) ?_)
        exact ih (m + 1) A t I jR jFEQ p1 p2 p3 p4 (by omega) (by omega)
      refine z_aload_n X (x := q1) rfl (List.Mem.head _) (z_load X (x := (6 * (m : Int))) rfl (List.Mem.tail _ (List.Mem.tail _ (List.Mem.tail _ (List.Mem.tail _ (List.Mem.head _))))) (z_sld X S hL rfl (show 0 ≤ (6 * (m : Int)) ∧ (6 * (m : Int)) < (L : Int) by first | exact sx_in hi (by decide) | omega) ?_))
      have sr2 : rng (sc xs (6 * (m : Int))) := sc_rng
      refine z_bipush X rfl (z_andm X rfl (by decide) (by decide) (fun y3 hy3 gy3 => ?_))
      rcases (show y3 = 0 ∨ y3 = 1 ∨ y3 = 2 ∨ y3 = 3 ∨ y3 = 4 ∨ y3 = 5 ∨ y3 = 6 ∨ y3 = 7 ∨ y3 = 8 ∨ y3 = 9 ∨ y3 = 10 ∨ y3 = 11 ∨ y3 = 12 ∨ y3 = 13 ∨ y3 = 14 ∨ y3 = 15 ∨ y3 = 16 ∨ y3 = 17 ∨ y3 = 18 ∨ y3 = 19 ∨ y3 = 20 ∨ y3 = 21 ∨ y3 = 22 ∨ y3 = 23 ∨ y3 = 24 ∨ y3 = 25 ∨ y3 = 26 ∨ y3 = 27 ∨ y3 = 28 ∨ y3 = 29 ∨ y3 = 30 ∨ y3 = 31 ∨ y3 = 32 ∨ y3 = 33 ∨ y3 = 34 ∨ y3 = 35 ∨ y3 = 36 ∨ y3 = 37 ∨ y3 = 38 ∨ y3 = 39 ∨ y3 = 40 ∨ y3 = 41 ∨ y3 = 42 ∨ y3 = 43 ∨ (y3 < 0 ∨ 43 < y3) by omega) with gs | gs | gs | gs | gs | gs | gs | gs | gs | gs | gs | gs | gs | gs | gs | gs | gs | gs | gs | gs | gs | gs | gs | gs | gs | gs | gs | gs | gs | gs | gs | gs | gs | gs | gs | gs | gs | gs | gs | gs | gs | gs | gs | gs | gs
      ·
        rw [gs]
        refine w_tabIn X.1 (dflt := 1837) (lo := 0) (hi := 43) (offs := #[192, 265, 293, 321, 334, 374, 435, 495, 535, 575, 627, 667, 719, 759, 787, 827, 855, 883, 911, 924, 937, 965, 993, 1021, 1061, 1074, 1102, 1142, 1170, 1210, 1250, 1290, 1342, 1382, 1410, 1466, 1530, 1610, 1638, 1718, 1758, 1786, 1799, 1812]) (len := 192) (off := 192) (t := 232) (ax_d X (show cdA 350 40 = some (.tableswitch 1837 0 43 #[192, 265, 293, 321, 334, 374, 435, 495, 535, 575, 627, 667, 719, 759, 787, 827, 855, 883, 911, 924, 937, 965, 993, 1021, 1061, 1074, 1102, 1142, 1170, 1210, 1250, 1290, 1342, 1382, 1410, 1466, 1530, 1610, 1638, 1718, 1758, 1786, 1799, 1812], 192, 0, 0, 0) from rfl)) (by decide) (by decide) (by decide) (by decide) ?_
        exact lc_0 G GR SF GT X E S hL I jR jFEQ p1 p2 p3 p4 (by omega) (by omega) (by omega) hk
      ·
        rw [gs]
        refine w_tabIn X.1 (dflt := 1837) (lo := 0) (hi := 43) (offs := #[192, 265, 293, 321, 334, 374, 435, 495, 535, 575, 627, 667, 719, 759, 787, 827, 855, 883, 911, 924, 937, 965, 993, 1021, 1061, 1074, 1102, 1142, 1170, 1210, 1250, 1290, 1342, 1382, 1410, 1466, 1530, 1610, 1638, 1718, 1758, 1786, 1799, 1812]) (len := 192) (off := 265) (t := 305) (ax_d X (show cdA 350 40 = some (.tableswitch 1837 0 43 #[192, 265, 293, 321, 334, 374, 435, 495, 535, 575, 627, 667, 719, 759, 787, 827, 855, 883, 911, 924, 937, 965, 993, 1021, 1061, 1074, 1102, 1142, 1170, 1210, 1250, 1290, 1342, 1382, 1410, 1466, 1530, 1610, 1638, 1718, 1758, 1786, 1799, 1812], 192, 0, 0, 0) from rfl)) (by decide) (by decide) (by decide) (by decide) ?_
        exact lc_1 G GR SF GT X E S hL I jR jFEQ p1 p2 p3 p4 (by omega) (by omega) (by omega) hk
      ·
        rw [gs]
        refine w_tabIn X.1 (dflt := 1837) (lo := 0) (hi := 43) (offs := #[192, 265, 293, 321, 334, 374, 435, 495, 535, 575, 627, 667, 719, 759, 787, 827, 855, 883, 911, 924, 937, 965, 993, 1021, 1061, 1074, 1102, 1142, 1170, 1210, 1250, 1290, 1342, 1382, 1410, 1466, 1530, 1610, 1638, 1718, 1758, 1786, 1799, 1812]) (len := 192) (off := 293) (t := 333) (ax_d X (show cdA 350 40 = some (.tableswitch 1837 0 43 #[192, 265, 293, 321, 334, 374, 435, 495, 535, 575, 627, 667, 719, 759, 787, 827, 855, 883, 911, 924, 937, 965, 993, 1021, 1061, 1074, 1102, 1142, 1170, 1210, 1250, 1290, 1342, 1382, 1410, 1466, 1530, 1610, 1638, 1718, 1758, 1786, 1799, 1812], 192, 0, 0, 0) from rfl)) (by decide) (by decide) (by decide) (by decide) ?_
        exact lc_2 G GR SF GT X E S hL I jR jFEQ p1 p2 p3 p4 (by omega) (by omega) (by omega) hk
      ·
        rw [gs]
        refine w_tabIn X.1 (dflt := 1837) (lo := 0) (hi := 43) (offs := #[192, 265, 293, 321, 334, 374, 435, 495, 535, 575, 627, 667, 719, 759, 787, 827, 855, 883, 911, 924, 937, 965, 993, 1021, 1061, 1074, 1102, 1142, 1170, 1210, 1250, 1290, 1342, 1382, 1410, 1466, 1530, 1610, 1638, 1718, 1758, 1786, 1799, 1812]) (len := 192) (off := 321) (t := 361) (ax_d X (show cdA 350 40 = some (.tableswitch 1837 0 43 #[192, 265, 293, 321, 334, 374, 435, 495, 535, 575, 627, 667, 719, 759, 787, 827, 855, 883, 911, 924, 937, 965, 993, 1021, 1061, 1074, 1102, 1142, 1170, 1210, 1250, 1290, 1342, 1382, 1410, 1466, 1530, 1610, 1638, 1718, 1758, 1786, 1799, 1812], 192, 0, 0, 0) from rfl)) (by decide) (by decide) (by decide) (by decide) ?_
        exact lc_3 G GR SF GT X E S hL I jR jFEQ p1 p2 p3 p4 (by omega) (by omega) (by omega) hk
      ·
        rw [gs]
        refine w_tabIn X.1 (dflt := 1837) (lo := 0) (hi := 43) (offs := #[192, 265, 293, 321, 334, 374, 435, 495, 535, 575, 627, 667, 719, 759, 787, 827, 855, 883, 911, 924, 937, 965, 993, 1021, 1061, 1074, 1102, 1142, 1170, 1210, 1250, 1290, 1342, 1382, 1410, 1466, 1530, 1610, 1638, 1718, 1758, 1786, 1799, 1812]) (len := 192) (off := 334) (t := 374) (ax_d X (show cdA 350 40 = some (.tableswitch 1837 0 43 #[192, 265, 293, 321, 334, 374, 435, 495, 535, 575, 627, 667, 719, 759, 787, 827, 855, 883, 911, 924, 937, 965, 993, 1021, 1061, 1074, 1102, 1142, 1170, 1210, 1250, 1290, 1342, 1382, 1410, 1466, 1530, 1610, 1638, 1718, 1758, 1786, 1799, 1812], 192, 0, 0, 0) from rfl)) (by decide) (by decide) (by decide) (by decide) ?_
        exact lc_4 G GR SF GT X E S hL I jR jFEQ p1 p2 p3 p4 (by omega) (by omega) (by omega) hk
      ·
        rw [gs]
        refine w_tabIn X.1 (dflt := 1837) (lo := 0) (hi := 43) (offs := #[192, 265, 293, 321, 334, 374, 435, 495, 535, 575, 627, 667, 719, 759, 787, 827, 855, 883, 911, 924, 937, 965, 993, 1021, 1061, 1074, 1102, 1142, 1170, 1210, 1250, 1290, 1342, 1382, 1410, 1466, 1530, 1610, 1638, 1718, 1758, 1786, 1799, 1812]) (len := 192) (off := 374) (t := 414) (ax_d X (show cdA 350 40 = some (.tableswitch 1837 0 43 #[192, 265, 293, 321, 334, 374, 435, 495, 535, 575, 627, 667, 719, 759, 787, 827, 855, 883, 911, 924, 937, 965, 993, 1021, 1061, 1074, 1102, 1142, 1170, 1210, 1250, 1290, 1342, 1382, 1410, 1466, 1530, 1610, 1638, 1718, 1758, 1786, 1799, 1812], 192, 0, 0, 0) from rfl)) (by decide) (by decide) (by decide) (by decide) ?_
        exact lc_5 G GR SF GT X E S hL I jR jFEQ p1 p2 p3 p4 (by omega) (by omega) (by omega) hk
      ·
        rw [gs]
        refine w_tabIn X.1 (dflt := 1837) (lo := 0) (hi := 43) (offs := #[192, 265, 293, 321, 334, 374, 435, 495, 535, 575, 627, 667, 719, 759, 787, 827, 855, 883, 911, 924, 937, 965, 993, 1021, 1061, 1074, 1102, 1142, 1170, 1210, 1250, 1290, 1342, 1382, 1410, 1466, 1530, 1610, 1638, 1718, 1758, 1786, 1799, 1812]) (len := 192) (off := 435) (t := 475) (ax_d X (show cdA 350 40 = some (.tableswitch 1837 0 43 #[192, 265, 293, 321, 334, 374, 435, 495, 535, 575, 627, 667, 719, 759, 787, 827, 855, 883, 911, 924, 937, 965, 993, 1021, 1061, 1074, 1102, 1142, 1170, 1210, 1250, 1290, 1342, 1382, 1410, 1466, 1530, 1610, 1638, 1718, 1758, 1786, 1799, 1812], 192, 0, 0, 0) from rfl)) (by decide) (by decide) (by decide) (by decide) ?_
        exact lc_6 G GR SF GT X E S hL I jR jFEQ p1 p2 p3 p4 (by omega) (by omega) (by omega) hk
      ·
        rw [gs]
        refine w_tabIn X.1 (dflt := 1837) (lo := 0) (hi := 43) (offs := #[192, 265, 293, 321, 334, 374, 435, 495, 535, 575, 627, 667, 719, 759, 787, 827, 855, 883, 911, 924, 937, 965, 993, 1021, 1061, 1074, 1102, 1142, 1170, 1210, 1250, 1290, 1342, 1382, 1410, 1466, 1530, 1610, 1638, 1718, 1758, 1786, 1799, 1812]) (len := 192) (off := 495) (t := 535) (ax_d X (show cdA 350 40 = some (.tableswitch 1837 0 43 #[192, 265, 293, 321, 334, 374, 435, 495, 535, 575, 627, 667, 719, 759, 787, 827, 855, 883, 911, 924, 937, 965, 993, 1021, 1061, 1074, 1102, 1142, 1170, 1210, 1250, 1290, 1342, 1382, 1410, 1466, 1530, 1610, 1638, 1718, 1758, 1786, 1799, 1812], 192, 0, 0, 0) from rfl)) (by decide) (by decide) (by decide) (by decide) ?_
        exact lc_7 G GR SF GT X E S hL I jR jFEQ p1 p2 p3 p4 (by omega) (by omega) (by omega) hk
      ·
        rw [gs]
        refine w_tabIn X.1 (dflt := 1837) (lo := 0) (hi := 43) (offs := #[192, 265, 293, 321, 334, 374, 435, 495, 535, 575, 627, 667, 719, 759, 787, 827, 855, 883, 911, 924, 937, 965, 993, 1021, 1061, 1074, 1102, 1142, 1170, 1210, 1250, 1290, 1342, 1382, 1410, 1466, 1530, 1610, 1638, 1718, 1758, 1786, 1799, 1812]) (len := 192) (off := 535) (t := 575) (ax_d X (show cdA 350 40 = some (.tableswitch 1837 0 43 #[192, 265, 293, 321, 334, 374, 435, 495, 535, 575, 627, 667, 719, 759, 787, 827, 855, 883, 911, 924, 937, 965, 993, 1021, 1061, 1074, 1102, 1142, 1170, 1210, 1250, 1290, 1342, 1382, 1410, 1466, 1530, 1610, 1638, 1718, 1758, 1786, 1799, 1812], 192, 0, 0, 0) from rfl)) (by decide) (by decide) (by decide) (by decide) ?_
        exact lc_8 G GR SF GT X E S hL I jR jFEQ p1 p2 p3 p4 (by omega) (by omega) (by omega) hk
      ·
        rw [gs]
        refine w_tabIn X.1 (dflt := 1837) (lo := 0) (hi := 43) (offs := #[192, 265, 293, 321, 334, 374, 435, 495, 535, 575, 627, 667, 719, 759, 787, 827, 855, 883, 911, 924, 937, 965, 993, 1021, 1061, 1074, 1102, 1142, 1170, 1210, 1250, 1290, 1342, 1382, 1410, 1466, 1530, 1610, 1638, 1718, 1758, 1786, 1799, 1812]) (len := 192) (off := 575) (t := 615) (ax_d X (show cdA 350 40 = some (.tableswitch 1837 0 43 #[192, 265, 293, 321, 334, 374, 435, 495, 535, 575, 627, 667, 719, 759, 787, 827, 855, 883, 911, 924, 937, 965, 993, 1021, 1061, 1074, 1102, 1142, 1170, 1210, 1250, 1290, 1342, 1382, 1410, 1466, 1530, 1610, 1638, 1718, 1758, 1786, 1799, 1812], 192, 0, 0, 0) from rfl)) (by decide) (by decide) (by decide) (by decide) ?_
        exact lc_9 G GR SF GT X E S hL I jR jFEQ p1 p2 p3 p4 (by omega) (by omega) (by omega) hk
      ·
        rw [gs]
        refine w_tabIn X.1 (dflt := 1837) (lo := 0) (hi := 43) (offs := #[192, 265, 293, 321, 334, 374, 435, 495, 535, 575, 627, 667, 719, 759, 787, 827, 855, 883, 911, 924, 937, 965, 993, 1021, 1061, 1074, 1102, 1142, 1170, 1210, 1250, 1290, 1342, 1382, 1410, 1466, 1530, 1610, 1638, 1718, 1758, 1786, 1799, 1812]) (len := 192) (off := 627) (t := 667) (ax_d X (show cdA 350 40 = some (.tableswitch 1837 0 43 #[192, 265, 293, 321, 334, 374, 435, 495, 535, 575, 627, 667, 719, 759, 787, 827, 855, 883, 911, 924, 937, 965, 993, 1021, 1061, 1074, 1102, 1142, 1170, 1210, 1250, 1290, 1342, 1382, 1410, 1466, 1530, 1610, 1638, 1718, 1758, 1786, 1799, 1812], 192, 0, 0, 0) from rfl)) (by decide) (by decide) (by decide) (by decide) ?_
        exact lc_10 G GR SF GT X E S hL I jR jFEQ p1 p2 p3 p4 (by omega) (by omega) (by omega) hk
      ·
        rw [gs]
        refine w_tabIn X.1 (dflt := 1837) (lo := 0) (hi := 43) (offs := #[192, 265, 293, 321, 334, 374, 435, 495, 535, 575, 627, 667, 719, 759, 787, 827, 855, 883, 911, 924, 937, 965, 993, 1021, 1061, 1074, 1102, 1142, 1170, 1210, 1250, 1290, 1342, 1382, 1410, 1466, 1530, 1610, 1638, 1718, 1758, 1786, 1799, 1812]) (len := 192) (off := 667) (t := 707) (ax_d X (show cdA 350 40 = some (.tableswitch 1837 0 43 #[192, 265, 293, 321, 334, 374, 435, 495, 535, 575, 627, 667, 719, 759, 787, 827, 855, 883, 911, 924, 937, 965, 993, 1021, 1061, 1074, 1102, 1142, 1170, 1210, 1250, 1290, 1342, 1382, 1410, 1466, 1530, 1610, 1638, 1718, 1758, 1786, 1799, 1812], 192, 0, 0, 0) from rfl)) (by decide) (by decide) (by decide) (by decide) ?_
        exact lc_11 G GR SF GT X E S hL I jR jFEQ p1 p2 p3 p4 (by omega) (by omega) (by omega) hk
      ·
        rw [gs]
        refine w_tabIn X.1 (dflt := 1837) (lo := 0) (hi := 43) (offs := #[192, 265, 293, 321, 334, 374, 435, 495, 535, 575, 627, 667, 719, 759, 787, 827, 855, 883, 911, 924, 937, 965, 993, 1021, 1061, 1074, 1102, 1142, 1170, 1210, 1250, 1290, 1342, 1382, 1410, 1466, 1530, 1610, 1638, 1718, 1758, 1786, 1799, 1812]) (len := 192) (off := 719) (t := 759) (ax_d X (show cdA 350 40 = some (.tableswitch 1837 0 43 #[192, 265, 293, 321, 334, 374, 435, 495, 535, 575, 627, 667, 719, 759, 787, 827, 855, 883, 911, 924, 937, 965, 993, 1021, 1061, 1074, 1102, 1142, 1170, 1210, 1250, 1290, 1342, 1382, 1410, 1466, 1530, 1610, 1638, 1718, 1758, 1786, 1799, 1812], 192, 0, 0, 0) from rfl)) (by decide) (by decide) (by decide) (by decide) ?_
        exact lc_12 G GR SF GT X E S hL I jR jFEQ p1 p2 p3 p4 (by omega) (by omega) (by omega) hk
      ·
        rw [gs]
        refine w_tabIn X.1 (dflt := 1837) (lo := 0) (hi := 43) (offs := #[192, 265, 293, 321, 334, 374, 435, 495, 535, 575, 627, 667, 719, 759, 787, 827, 855, 883, 911, 924, 937, 965, 993, 1021, 1061, 1074, 1102, 1142, 1170, 1210, 1250, 1290, 1342, 1382, 1410, 1466, 1530, 1610, 1638, 1718, 1758, 1786, 1799, 1812]) (len := 192) (off := 759) (t := 799) (ax_d X (show cdA 350 40 = some (.tableswitch 1837 0 43 #[192, 265, 293, 321, 334, 374, 435, 495, 535, 575, 627, 667, 719, 759, 787, 827, 855, 883, 911, 924, 937, 965, 993, 1021, 1061, 1074, 1102, 1142, 1170, 1210, 1250, 1290, 1342, 1382, 1410, 1466, 1530, 1610, 1638, 1718, 1758, 1786, 1799, 1812], 192, 0, 0, 0) from rfl)) (by decide) (by decide) (by decide) (by decide) ?_
        exact lc_13 G GR SF GT X E S hL I jR jFEQ p1 p2 p3 p4 (by omega) (by omega) (by omega) hk
      ·
        rw [gs]
        refine w_tabIn X.1 (dflt := 1837) (lo := 0) (hi := 43) (offs := #[192, 265, 293, 321, 334, 374, 435, 495, 535, 575, 627, 667, 719, 759, 787, 827, 855, 883, 911, 924, 937, 965, 993, 1021, 1061, 1074, 1102, 1142, 1170, 1210, 1250, 1290, 1342, 1382, 1410, 1466, 1530, 1610, 1638, 1718, 1758, 1786, 1799, 1812]) (len := 192) (off := 787) (t := 827) (ax_d X (show cdA 350 40 = some (.tableswitch 1837 0 43 #[192, 265, 293, 321, 334, 374, 435, 495, 535, 575, 627, 667, 719, 759, 787, 827, 855, 883, 911, 924, 937, 965, 993, 1021, 1061, 1074, 1102, 1142, 1170, 1210, 1250, 1290, 1342, 1382, 1410, 1466, 1530, 1610, 1638, 1718, 1758, 1786, 1799, 1812], 192, 0, 0, 0) from rfl)) (by decide) (by decide) (by decide) (by decide) ?_
        exact lc_14 G GR SF GT X E S hL I jR jFEQ p1 p2 p3 p4 (by omega) (by omega) (by omega) hk
      ·
        rw [gs]
        refine w_tabIn X.1 (dflt := 1837) (lo := 0) (hi := 43) (offs := #[192, 265, 293, 321, 334, 374, 435, 495, 535, 575, 627, 667, 719, 759, 787, 827, 855, 883, 911, 924, 937, 965, 993, 1021, 1061, 1074, 1102, 1142, 1170, 1210, 1250, 1290, 1342, 1382, 1410, 1466, 1530, 1610, 1638, 1718, 1758, 1786, 1799, 1812]) (len := 192) (off := 827) (t := 867) (ax_d X (show cdA 350 40 = some (.tableswitch 1837 0 43 #[192, 265, 293, 321, 334, 374, 435, 495, 535, 575, 627, 667, 719, 759, 787, 827, 855, 883, 911, 924, 937, 965, 993, 1021, 1061, 1074, 1102, 1142, 1170, 1210, 1250, 1290, 1342, 1382, 1410, 1466, 1530, 1610, 1638, 1718, 1758, 1786, 1799, 1812], 192, 0, 0, 0) from rfl)) (by decide) (by decide) (by decide) (by decide) ?_
        exact lc_15 G GR SF GT X E S hL I jR jFEQ p1 p2 p3 p4 (by omega) (by omega) (by omega) hk
      ·
        rw [gs]
        refine w_tabIn X.1 (dflt := 1837) (lo := 0) (hi := 43) (offs := #[192, 265, 293, 321, 334, 374, 435, 495, 535, 575, 627, 667, 719, 759, 787, 827, 855, 883, 911, 924, 937, 965, 993, 1021, 1061, 1074, 1102, 1142, 1170, 1210, 1250, 1290, 1342, 1382, 1410, 1466, 1530, 1610, 1638, 1718, 1758, 1786, 1799, 1812]) (len := 192) (off := 855) (t := 895) (ax_d X (show cdA 350 40 = some (.tableswitch 1837 0 43 #[192, 265, 293, 321, 334, 374, 435, 495, 535, 575, 627, 667, 719, 759, 787, 827, 855, 883, 911, 924, 937, 965, 993, 1021, 1061, 1074, 1102, 1142, 1170, 1210, 1250, 1290, 1342, 1382, 1410, 1466, 1530, 1610, 1638, 1718, 1758, 1786, 1799, 1812], 192, 0, 0, 0) from rfl)) (by decide) (by decide) (by decide) (by decide) ?_
        exact lc_16 G GR SF GT X E S hL I jR jFEQ p1 p2 p3 p4 (by omega) (by omega) (by omega) hk
      ·
        rw [gs]
        refine w_tabIn X.1 (dflt := 1837) (lo := 0) (hi := 43) (offs := #[192, 265, 293, 321, 334, 374, 435, 495, 535, 575, 627, 667, 719, 759, 787, 827, 855, 883, 911, 924, 937, 965, 993, 1021, 1061, 1074, 1102, 1142, 1170, 1210, 1250, 1290, 1342, 1382, 1410, 1466, 1530, 1610, 1638, 1718, 1758, 1786, 1799, 1812]) (len := 192) (off := 883) (t := 923) (ax_d X (show cdA 350 40 = some (.tableswitch 1837 0 43 #[192, 265, 293, 321, 334, 374, 435, 495, 535, 575, 627, 667, 719, 759, 787, 827, 855, 883, 911, 924, 937, 965, 993, 1021, 1061, 1074, 1102, 1142, 1170, 1210, 1250, 1290, 1342, 1382, 1410, 1466, 1530, 1610, 1638, 1718, 1758, 1786, 1799, 1812], 192, 0, 0, 0) from rfl)) (by decide) (by decide) (by decide) (by decide) ?_
        exact lc_17 G GR SF GT X E S hL I jR jFEQ p1 p2 p3 p4 (by omega) (by omega) (by omega) hk
      ·
        rw [gs]
        refine w_tabIn X.1 (dflt := 1837) (lo := 0) (hi := 43) (offs := #[192, 265, 293, 321, 334, 374, 435, 495, 535, 575, 627, 667, 719, 759, 787, 827, 855, 883, 911, 924, 937, 965, 993, 1021, 1061, 1074, 1102, 1142, 1170, 1210, 1250, 1290, 1342, 1382, 1410, 1466, 1530, 1610, 1638, 1718, 1758, 1786, 1799, 1812]) (len := 192) (off := 911) (t := 951) (ax_d X (show cdA 350 40 = some (.tableswitch 1837 0 43 #[192, 265, 293, 321, 334, 374, 435, 495, 535, 575, 627, 667, 719, 759, 787, 827, 855, 883, 911, 924, 937, 965, 993, 1021, 1061, 1074, 1102, 1142, 1170, 1210, 1250, 1290, 1342, 1382, 1410, 1466, 1530, 1610, 1638, 1718, 1758, 1786, 1799, 1812], 192, 0, 0, 0) from rfl)) (by decide) (by decide) (by decide) (by decide) ?_
        exact lc_18 G GR SF GT X E S hL I jR jFEQ p1 p2 p3 p4 (by omega) (by omega) (by omega) hk
      ·
        rw [gs]
        refine w_tabIn X.1 (dflt := 1837) (lo := 0) (hi := 43) (offs := #[192, 265, 293, 321, 334, 374, 435, 495, 535, 575, 627, 667, 719, 759, 787, 827, 855, 883, 911, 924, 937, 965, 993, 1021, 1061, 1074, 1102, 1142, 1170, 1210, 1250, 1290, 1342, 1382, 1410, 1466, 1530, 1610, 1638, 1718, 1758, 1786, 1799, 1812]) (len := 192) (off := 924) (t := 964) (ax_d X (show cdA 350 40 = some (.tableswitch 1837 0 43 #[192, 265, 293, 321, 334, 374, 435, 495, 535, 575, 627, 667, 719, 759, 787, 827, 855, 883, 911, 924, 937, 965, 993, 1021, 1061, 1074, 1102, 1142, 1170, 1210, 1250, 1290, 1342, 1382, 1410, 1466, 1530, 1610, 1638, 1718, 1758, 1786, 1799, 1812], 192, 0, 0, 0) from rfl)) (by decide) (by decide) (by decide) (by decide) ?_
        exact lc_19 G GR SF GT X E S hL I jR jFEQ p1 p2 p3 p4 (by omega) (by omega) (by omega) hk
      ·
        rw [gs]
        refine w_tabIn X.1 (dflt := 1837) (lo := 0) (hi := 43) (offs := #[192, 265, 293, 321, 334, 374, 435, 495, 535, 575, 627, 667, 719, 759, 787, 827, 855, 883, 911, 924, 937, 965, 993, 1021, 1061, 1074, 1102, 1142, 1170, 1210, 1250, 1290, 1342, 1382, 1410, 1466, 1530, 1610, 1638, 1718, 1758, 1786, 1799, 1812]) (len := 192) (off := 937) (t := 977) (ax_d X (show cdA 350 40 = some (.tableswitch 1837 0 43 #[192, 265, 293, 321, 334, 374, 435, 495, 535, 575, 627, 667, 719, 759, 787, 827, 855, 883, 911, 924, 937, 965, 993, 1021, 1061, 1074, 1102, 1142, 1170, 1210, 1250, 1290, 1342, 1382, 1410, 1466, 1530, 1610, 1638, 1718, 1758, 1786, 1799, 1812], 192, 0, 0, 0) from rfl)) (by decide) (by decide) (by decide) (by decide) ?_
        exact lc_20 G GR SF GT X E S hL I jR jFEQ p1 p2 p3 p4 (by omega) (by omega) (by omega) hk
      ·
        rw [gs]
        refine w_tabIn X.1 (dflt := 1837) (lo := 0) (hi := 43) (offs := #[192, 265, 293, 321, 334, 374, 435, 495, 535, 575, 627, 667, 719, 759, 787, 827, 855, 883, 911, 924, 937, 965, 993, 1021, 1061, 1074, 1102, 1142, 1170, 1210, 1250, 1290, 1342, 1382, 1410, 1466, 1530, 1610, 1638, 1718, 1758, 1786, 1799, 1812]) (len := 192) (off := 965) (t := 1005) (ax_d X (show cdA 350 40 = some (.tableswitch 1837 0 43 #[192, 265, 293, 321, 334, 374, 435, 495, 535, 575, 627, 667, 719, 759, 787, 827, 855, 883, 911, 924, 937, 965, 993, 1021, 1061, 1074, 1102, 1142, 1170, 1210, 1250, 1290, 1342, 1382, 1410, 1466, 1530, 1610, 1638, 1718, 1758, 1786, 1799, 1812], 192, 0, 0, 0) from rfl)) (by decide) (by decide) (by decide) (by decide) ?_
        exact lc_21 G GR SF GT X E S hL I jR jFEQ p1 p2 p3 p4 (by omega) (by omega) (by omega) hk
      ·
        rw [gs]
        refine w_tabIn X.1 (dflt := 1837) (lo := 0) (hi := 43) (offs := #[192, 265, 293, 321, 334, 374, 435, 495, 535, 575, 627, 667, 719, 759, 787, 827, 855, 883, 911, 924, 937, 965, 993, 1021, 1061, 1074, 1102, 1142, 1170, 1210, 1250, 1290, 1342, 1382, 1410, 1466, 1530, 1610, 1638, 1718, 1758, 1786, 1799, 1812]) (len := 192) (off := 993) (t := 1033) (ax_d X (show cdA 350 40 = some (.tableswitch 1837 0 43 #[192, 265, 293, 321, 334, 374, 435, 495, 535, 575, 627, 667, 719, 759, 787, 827, 855, 883, 911, 924, 937, 965, 993, 1021, 1061, 1074, 1102, 1142, 1170, 1210, 1250, 1290, 1342, 1382, 1410, 1466, 1530, 1610, 1638, 1718, 1758, 1786, 1799, 1812], 192, 0, 0, 0) from rfl)) (by decide) (by decide) (by decide) (by decide) ?_
        exact lc_22 G GR SF GT X E S hL I jR jFEQ p1 p2 p3 p4 (by omega) (by omega) (by omega) hk
      ·
        rw [gs]
        refine w_tabIn X.1 (dflt := 1837) (lo := 0) (hi := 43) (offs := #[192, 265, 293, 321, 334, 374, 435, 495, 535, 575, 627, 667, 719, 759, 787, 827, 855, 883, 911, 924, 937, 965, 993, 1021, 1061, 1074, 1102, 1142, 1170, 1210, 1250, 1290, 1342, 1382, 1410, 1466, 1530, 1610, 1638, 1718, 1758, 1786, 1799, 1812]) (len := 192) (off := 1021) (t := 1061) (ax_d X (show cdA 350 40 = some (.tableswitch 1837 0 43 #[192, 265, 293, 321, 334, 374, 435, 495, 535, 575, 627, 667, 719, 759, 787, 827, 855, 883, 911, 924, 937, 965, 993, 1021, 1061, 1074, 1102, 1142, 1170, 1210, 1250, 1290, 1342, 1382, 1410, 1466, 1530, 1610, 1638, 1718, 1758, 1786, 1799, 1812], 192, 0, 0, 0) from rfl)) (by decide) (by decide) (by decide) (by decide) ?_
        exact lc_23 G GR SF GT X E S hL I jR jFEQ p1 p2 p3 p4 (by omega) (by omega) (by omega) hk
      ·
        rw [gs]
        refine w_tabIn X.1 (dflt := 1837) (lo := 0) (hi := 43) (offs := #[192, 265, 293, 321, 334, 374, 435, 495, 535, 575, 627, 667, 719, 759, 787, 827, 855, 883, 911, 924, 937, 965, 993, 1021, 1061, 1074, 1102, 1142, 1170, 1210, 1250, 1290, 1342, 1382, 1410, 1466, 1530, 1610, 1638, 1718, 1758, 1786, 1799, 1812]) (len := 192) (off := 1061) (t := 1101) (ax_d X (show cdA 350 40 = some (.tableswitch 1837 0 43 #[192, 265, 293, 321, 334, 374, 435, 495, 535, 575, 627, 667, 719, 759, 787, 827, 855, 883, 911, 924, 937, 965, 993, 1021, 1061, 1074, 1102, 1142, 1170, 1210, 1250, 1290, 1342, 1382, 1410, 1466, 1530, 1610, 1638, 1718, 1758, 1786, 1799, 1812], 192, 0, 0, 0) from rfl)) (by decide) (by decide) (by decide) (by decide) ?_
        exact lc_24 G GR SF GT X E S hL I jR jFEQ p1 p2 p3 p4 (by omega) (by omega) (by omega) hk
      ·
        rw [gs]
        refine w_tabIn X.1 (dflt := 1837) (lo := 0) (hi := 43) (offs := #[192, 265, 293, 321, 334, 374, 435, 495, 535, 575, 627, 667, 719, 759, 787, 827, 855, 883, 911, 924, 937, 965, 993, 1021, 1061, 1074, 1102, 1142, 1170, 1210, 1250, 1290, 1342, 1382, 1410, 1466, 1530, 1610, 1638, 1718, 1758, 1786, 1799, 1812]) (len := 192) (off := 1074) (t := 1114) (ax_d X (show cdA 350 40 = some (.tableswitch 1837 0 43 #[192, 265, 293, 321, 334, 374, 435, 495, 535, 575, 627, 667, 719, 759, 787, 827, 855, 883, 911, 924, 937, 965, 993, 1021, 1061, 1074, 1102, 1142, 1170, 1210, 1250, 1290, 1342, 1382, 1410, 1466, 1530, 1610, 1638, 1718, 1758, 1786, 1799, 1812], 192, 0, 0, 0) from rfl)) (by decide) (by decide) (by decide) (by decide) ?_
        exact lc_25 G GR SF GT X E S hL I jR jFEQ p1 p2 p3 p4 (by omega) (by omega) (by omega) hk
      ·
        rw [gs]
        refine w_tabIn X.1 (dflt := 1837) (lo := 0) (hi := 43) (offs := #[192, 265, 293, 321, 334, 374, 435, 495, 535, 575, 627, 667, 719, 759, 787, 827, 855, 883, 911, 924, 937, 965, 993, 1021, 1061, 1074, 1102, 1142, 1170, 1210, 1250, 1290, 1342, 1382, 1410, 1466, 1530, 1610, 1638, 1718, 1758, 1786, 1799, 1812]) (len := 192) (off := 1102) (t := 1142) (ax_d X (show cdA 350 40 = some (.tableswitch 1837 0 43 #[192, 265, 293, 321, 334, 374, 435, 495, 535, 575, 627, 667, 719, 759, 787, 827, 855, 883, 911, 924, 937, 965, 993, 1021, 1061, 1074, 1102, 1142, 1170, 1210, 1250, 1290, 1342, 1382, 1410, 1466, 1530, 1610, 1638, 1718, 1758, 1786, 1799, 1812], 192, 0, 0, 0) from rfl)) (by decide) (by decide) (by decide) (by decide) ?_
        exact lc_26 G GR SF GT X E S hL I jR jFEQ p1 p2 p3 p4 (by omega) (by omega) (by omega) hk
      ·
        rw [gs]
        refine w_tabIn X.1 (dflt := 1837) (lo := 0) (hi := 43) (offs := #[192, 265, 293, 321, 334, 374, 435, 495, 535, 575, 627, 667, 719, 759, 787, 827, 855, 883, 911, 924, 937, 965, 993, 1021, 1061, 1074, 1102, 1142, 1170, 1210, 1250, 1290, 1342, 1382, 1410, 1466, 1530, 1610, 1638, 1718, 1758, 1786, 1799, 1812]) (len := 192) (off := 1142) (t := 1182) (ax_d X (show cdA 350 40 = some (.tableswitch 1837 0 43 #[192, 265, 293, 321, 334, 374, 435, 495, 535, 575, 627, 667, 719, 759, 787, 827, 855, 883, 911, 924, 937, 965, 993, 1021, 1061, 1074, 1102, 1142, 1170, 1210, 1250, 1290, 1342, 1382, 1410, 1466, 1530, 1610, 1638, 1718, 1758, 1786, 1799, 1812], 192, 0, 0, 0) from rfl)) (by decide) (by decide) (by decide) (by decide) ?_
        exact lc_27 G GR SF GT X E S hL I jR jFEQ p1 p2 p3 p4 (by omega) (by omega) (by omega) hk
      ·
        rw [gs]
        refine w_tabIn X.1 (dflt := 1837) (lo := 0) (hi := 43) (offs := #[192, 265, 293, 321, 334, 374, 435, 495, 535, 575, 627, 667, 719, 759, 787, 827, 855, 883, 911, 924, 937, 965, 993, 1021, 1061, 1074, 1102, 1142, 1170, 1210, 1250, 1290, 1342, 1382, 1410, 1466, 1530, 1610, 1638, 1718, 1758, 1786, 1799, 1812]) (len := 192) (off := 1170) (t := 1210) (ax_d X (show cdA 350 40 = some (.tableswitch 1837 0 43 #[192, 265, 293, 321, 334, 374, 435, 495, 535, 575, 627, 667, 719, 759, 787, 827, 855, 883, 911, 924, 937, 965, 993, 1021, 1061, 1074, 1102, 1142, 1170, 1210, 1250, 1290, 1342, 1382, 1410, 1466, 1530, 1610, 1638, 1718, 1758, 1786, 1799, 1812], 192, 0, 0, 0) from rfl)) (by decide) (by decide) (by decide) (by decide) ?_
        exact lc_28 G GR SF GT X E S hL I jR jFEQ p1 p2 p3 p4 (by omega) (by omega) (by omega) hk
      ·
        rw [gs]
        refine w_tabIn X.1 (dflt := 1837) (lo := 0) (hi := 43) (offs := #[192, 265, 293, 321, 334, 374, 435, 495, 535, 575, 627, 667, 719, 759, 787, 827, 855, 883, 911, 924, 937, 965, 993, 1021, 1061, 1074, 1102, 1142, 1170, 1210, 1250, 1290, 1342, 1382, 1410, 1466, 1530, 1610, 1638, 1718, 1758, 1786, 1799, 1812]) (len := 192) (off := 1210) (t := 1250) (ax_d X (show cdA 350 40 = some (.tableswitch 1837 0 43 #[192, 265, 293, 321, 334, 374, 435, 495, 535, 575, 627, 667, 719, 759, 787, 827, 855, 883, 911, 924, 937, 965, 993, 1021, 1061, 1074, 1102, 1142, 1170, 1210, 1250, 1290, 1342, 1382, 1410, 1466, 1530, 1610, 1638, 1718, 1758, 1786, 1799, 1812], 192, 0, 0, 0) from rfl)) (by decide) (by decide) (by decide) (by decide) ?_
        exact lc_29 G GR SF GT X E S hL I jR jFEQ p1 p2 p3 p4 (by omega) (by omega) (by omega) hk
      ·
        rw [gs]
        refine w_tabIn X.1 (dflt := 1837) (lo := 0) (hi := 43) (offs := #[192, 265, 293, 321, 334, 374, 435, 495, 535, 575, 627, 667, 719, 759, 787, 827, 855, 883, 911, 924, 937, 965, 993, 1021, 1061, 1074, 1102, 1142, 1170, 1210, 1250, 1290, 1342, 1382, 1410, 1466, 1530, 1610, 1638, 1718, 1758, 1786, 1799, 1812]) (len := 192) (off := 1250) (t := 1290) (ax_d X (show cdA 350 40 = some (.tableswitch 1837 0 43 #[192, 265, 293, 321, 334, 374, 435, 495, 535, 575, 627, 667, 719, 759, 787, 827, 855, 883, 911, 924, 937, 965, 993, 1021, 1061, 1074, 1102, 1142, 1170, 1210, 1250, 1290, 1342, 1382, 1410, 1466, 1530, 1610, 1638, 1718, 1758, 1786, 1799, 1812], 192, 0, 0, 0) from rfl)) (by decide) (by decide) (by decide) (by decide) ?_
        exact lc_30 G GR SF GT X E S hL I jR jFEQ p1 p2 p3 p4 (by omega) (by omega) (by omega) hk
      ·
        rw [gs]
        refine w_tabIn X.1 (dflt := 1837) (lo := 0) (hi := 43) (offs := #[192, 265, 293, 321, 334, 374, 435, 495, 535, 575, 627, 667, 719, 759, 787, 827, 855, 883, 911, 924, 937, 965, 993, 1021, 1061, 1074, 1102, 1142, 1170, 1210, 1250, 1290, 1342, 1382, 1410, 1466, 1530, 1610, 1638, 1718, 1758, 1786, 1799, 1812]) (len := 192) (off := 1290) (t := 1330) (ax_d X (show cdA 350 40 = some (.tableswitch 1837 0 43 #[192, 265, 293, 321, 334, 374, 435, 495, 535, 575, 627, 667, 719, 759, 787, 827, 855, 883, 911, 924, 937, 965, 993, 1021, 1061, 1074, 1102, 1142, 1170, 1210, 1250, 1290, 1342, 1382, 1410, 1466, 1530, 1610, 1638, 1718, 1758, 1786, 1799, 1812], 192, 0, 0, 0) from rfl)) (by decide) (by decide) (by decide) (by decide) ?_
        exact lc_31 G GR SF GT X E S hL I jR jFEQ p1 p2 p3 p4 (by omega) (by omega) (by omega) hk
      ·
        rw [gs]
        refine w_tabIn X.1 (dflt := 1837) (lo := 0) (hi := 43) (offs := #[192, 265, 293, 321, 334, 374, 435, 495, 535, 575, 627, 667, 719, 759, 787, 827, 855, 883, 911, 924, 937, 965, 993, 1021, 1061, 1074, 1102, 1142, 1170, 1210, 1250, 1290, 1342, 1382, 1410, 1466, 1530, 1610, 1638, 1718, 1758, 1786, 1799, 1812]) (len := 192) (off := 1342) (t := 1382) (ax_d X (show cdA 350 40 = some (.tableswitch 1837 0 43 #[192, 265, 293, 321, 334, 374, 435, 495, 535, 575, 627, 667, 719, 759, 787, 827, 855, 883, 911, 924, 937, 965, 993, 1021, 1061, 1074, 1102, 1142, 1170, 1210, 1250, 1290, 1342, 1382, 1410, 1466, 1530, 1610, 1638, 1718, 1758, 1786, 1799, 1812], 192, 0, 0, 0) from rfl)) (by decide) (by decide) (by decide) (by decide) ?_
        exact lc_32 G GR SF GT X E S hL I jR jFEQ p1 p2 p3 p4 (by omega) (by omega) (by omega) hk
      ·
        rw [gs]
        refine w_tabIn X.1 (dflt := 1837) (lo := 0) (hi := 43) (offs := #[192, 265, 293, 321, 334, 374, 435, 495, 535, 575, 627, 667, 719, 759, 787, 827, 855, 883, 911, 924, 937, 965, 993, 1021, 1061, 1074, 1102, 1142, 1170, 1210, 1250, 1290, 1342, 1382, 1410, 1466, 1530, 1610, 1638, 1718, 1758, 1786, 1799, 1812]) (len := 192) (off := 1382) (t := 1422) (ax_d X (show cdA 350 40 = some (.tableswitch 1837 0 43 #[192, 265, 293, 321, 334, 374, 435, 495, 535, 575, 627, 667, 719, 759, 787, 827, 855, 883, 911, 924, 937, 965, 993, 1021, 1061, 1074, 1102, 1142, 1170, 1210, 1250, 1290, 1342, 1382, 1410, 1466, 1530, 1610, 1638, 1718, 1758, 1786, 1799, 1812], 192, 0, 0, 0) from rfl)) (by decide) (by decide) (by decide) (by decide) ?_
        exact lc_33 G GR SF GT X E S hL I jR jFEQ p1 p2 p3 p4 (by omega) (by omega) (by omega) hk
      ·
        rw [gs]
        refine w_tabIn X.1 (dflt := 1837) (lo := 0) (hi := 43) (offs := #[192, 265, 293, 321, 334, 374, 435, 495, 535, 575, 627, 667, 719, 759, 787, 827, 855, 883, 911, 924, 937, 965, 993, 1021, 1061, 1074, 1102, 1142, 1170, 1210, 1250, 1290, 1342, 1382, 1410, 1466, 1530, 1610, 1638, 1718, 1758, 1786, 1799, 1812]) (len := 192) (off := 1410) (t := 1450) (ax_d X (show cdA 350 40 = some (.tableswitch 1837 0 43 #[192, 265, 293, 321, 334, 374, 435, 495, 535, 575, 627, 667, 719, 759, 787, 827, 855, 883, 911, 924, 937, 965, 993, 1021, 1061, 1074, 1102, 1142, 1170, 1210, 1250, 1290, 1342, 1382, 1410, 1466, 1530, 1610, 1638, 1718, 1758, 1786, 1799, 1812], 192, 0, 0, 0) from rfl)) (by decide) (by decide) (by decide) (by decide) ?_
        exact lc_34 G GR SF GT X E S hL I jR jFEQ p1 p2 p3 p4 (by omega) (by omega) (by omega) hk
      ·
        rw [gs]
        refine w_tabIn X.1 (dflt := 1837) (lo := 0) (hi := 43) (offs := #[192, 265, 293, 321, 334, 374, 435, 495, 535, 575, 627, 667, 719, 759, 787, 827, 855, 883, 911, 924, 937, 965, 993, 1021, 1061, 1074, 1102, 1142, 1170, 1210, 1250, 1290, 1342, 1382, 1410, 1466, 1530, 1610, 1638, 1718, 1758, 1786, 1799, 1812]) (len := 192) (off := 1466) (t := 1506) (ax_d X (show cdA 350 40 = some (.tableswitch 1837 0 43 #[192, 265, 293, 321, 334, 374, 435, 495, 535, 575, 627, 667, 719, 759, 787, 827, 855, 883, 911, 924, 937, 965, 993, 1021, 1061, 1074, 1102, 1142, 1170, 1210, 1250, 1290, 1342, 1382, 1410, 1466, 1530, 1610, 1638, 1718, 1758, 1786, 1799, 1812], 192, 0, 0, 0) from rfl)) (by decide) (by decide) (by decide) (by decide) ?_
        exact lc_35 G GR SF GT X E S hL I jR jFEQ p1 p2 p3 p4 (by omega) (by omega) (by omega) hk
      ·
        rw [gs]
        refine w_tabIn X.1 (dflt := 1837) (lo := 0) (hi := 43) (offs := #[192, 265, 293, 321, 334, 374, 435, 495, 535, 575, 627, 667, 719, 759, 787, 827, 855, 883, 911, 924, 937, 965, 993, 1021, 1061, 1074, 1102, 1142, 1170, 1210, 1250, 1290, 1342, 1382, 1410, 1466, 1530, 1610, 1638, 1718, 1758, 1786, 1799, 1812]) (len := 192) (off := 1530) (t := 1570) (ax_d X (show cdA 350 40 = some (.tableswitch 1837 0 43 #[192, 265, 293, 321, 334, 374, 435, 495, 535, 575, 627, 667, 719, 759, 787, 827, 855, 883, 911, 924, 937, 965, 993, 1021, 1061, 1074, 1102, 1142, 1170, 1210, 1250, 1290, 1342, 1382, 1410, 1466, 1530, 1610, 1638, 1718, 1758, 1786, 1799, 1812], 192, 0, 0, 0) from rfl)) (by decide) (by decide) (by decide) (by decide) ?_
        exact lc_36 G GR SF GT X E S hL I jR jFEQ p1 p2 p3 p4 (by omega) (by omega) (by omega) hk
      ·
        rw [gs]
        refine w_tabIn X.1 (dflt := 1837) (lo := 0) (hi := 43) (offs := #[192, 265, 293, 321, 334, 374, 435, 495, 535, 575, 627, 667, 719, 759, 787, 827, 855, 883, 911, 924, 937, 965, 993, 1021, 1061, 1074, 1102, 1142, 1170, 1210, 1250, 1290, 1342, 1382, 1410, 1466, 1530, 1610, 1638, 1718, 1758, 1786, 1799, 1812]) (len := 192) (off := 1610) (t := 1650) (ax_d X (show cdA 350 40 = some (.tableswitch 1837 0 43 #[192, 265, 293, 321, 334, 374, 435, 495, 535, 575, 627, 667, 719, 759, 787, 827, 855, 883, 911, 924, 937, 965, 993, 1021, 1061, 1074, 1102, 1142, 1170, 1210, 1250, 1290, 1342, 1382, 1410, 1466, 1530, 1610, 1638, 1718, 1758, 1786, 1799, 1812], 192, 0, 0, 0) from rfl)) (by decide) (by decide) (by decide) (by decide) ?_
        exact lc_37 G GR SF GT X E S hL I jR jFEQ p1 p2 p3 p4 (by omega) (by omega) (by omega) hk
      ·
        rw [gs]
        refine w_tabIn X.1 (dflt := 1837) (lo := 0) (hi := 43) (offs := #[192, 265, 293, 321, 334, 374, 435, 495, 535, 575, 627, 667, 719, 759, 787, 827, 855, 883, 911, 924, 937, 965, 993, 1021, 1061, 1074, 1102, 1142, 1170, 1210, 1250, 1290, 1342, 1382, 1410, 1466, 1530, 1610, 1638, 1718, 1758, 1786, 1799, 1812]) (len := 192) (off := 1638) (t := 1678) (ax_d X (show cdA 350 40 = some (.tableswitch 1837 0 43 #[192, 265, 293, 321, 334, 374, 435, 495, 535, 575, 627, 667, 719, 759, 787, 827, 855, 883, 911, 924, 937, 965, 993, 1021, 1061, 1074, 1102, 1142, 1170, 1210, 1250, 1290, 1342, 1382, 1410, 1466, 1530, 1610, 1638, 1718, 1758, 1786, 1799, 1812], 192, 0, 0, 0) from rfl)) (by decide) (by decide) (by decide) (by decide) ?_
        exact lc_38 G GR SF GT X E S hL I jR jFEQ p1 p2 p3 p4 (by omega) (by omega) (by omega) hk
      ·
        rw [gs]
        refine w_tabIn X.1 (dflt := 1837) (lo := 0) (hi := 43) (offs := #[192, 265, 293, 321, 334, 374, 435, 495, 535, 575, 627, 667, 719, 759, 787, 827, 855, 883, 911, 924, 937, 965, 993, 1021, 1061, 1074, 1102, 1142, 1170, 1210, 1250, 1290, 1342, 1382, 1410, 1466, 1530, 1610, 1638, 1718, 1758, 1786, 1799, 1812]) (len := 192) (off := 1718) (t := 1758) (ax_d X (show cdA 350 40 = some (.tableswitch 1837 0 43 #[192, 265, 293, 321, 334, 374, 435, 495, 535, 575, 627, 667, 719, 759, 787, 827, 855, 883, 911, 924, 937, 965, 993, 1021, 1061, 1074, 1102, 1142, 1170, 1210, 1250, 1290, 1342, 1382, 1410, 1466, 1530, 1610, 1638, 1718, 1758, 1786, 1799, 1812], 192, 0, 0, 0) from rfl)) (by decide) (by decide) (by decide) (by decide) ?_
        exact lc_39 G GR SF GT X E S hL I jR jFEQ p1 p2 p3 p4 (by omega) (by omega) (by omega) hk
      ·
        rw [gs]
        refine w_tabIn X.1 (dflt := 1837) (lo := 0) (hi := 43) (offs := #[192, 265, 293, 321, 334, 374, 435, 495, 535, 575, 627, 667, 719, 759, 787, 827, 855, 883, 911, 924, 937, 965, 993, 1021, 1061, 1074, 1102, 1142, 1170, 1210, 1250, 1290, 1342, 1382, 1410, 1466, 1530, 1610, 1638, 1718, 1758, 1786, 1799, 1812]) (len := 192) (off := 1758) (t := 1798) (ax_d X (show cdA 350 40 = some (.tableswitch 1837 0 43 #[192, 265, 293, 321, 334, 374, 435, 495, 535, 575, 627, 667, 719, 759, 787, 827, 855, 883, 911, 924, 937, 965, 993, 1021, 1061, 1074, 1102, 1142, 1170, 1210, 1250, 1290, 1342, 1382, 1410, 1466, 1530, 1610, 1638, 1718, 1758, 1786, 1799, 1812], 192, 0, 0, 0) from rfl)) (by decide) (by decide) (by decide) (by decide) ?_
        exact lc_40 G GR SF GT X E S hL I jR jFEQ p1 p2 p3 p4 (by omega) (by omega) (by omega) hk
      ·
        rw [gs]
        refine w_tabIn X.1 (dflt := 1837) (lo := 0) (hi := 43) (offs := #[192, 265, 293, 321, 334, 374, 435, 495, 535, 575, 627, 667, 719, 759, 787, 827, 855, 883, 911, 924, 937, 965, 993, 1021, 1061, 1074, 1102, 1142, 1170, 1210, 1250, 1290, 1342, 1382, 1410, 1466, 1530, 1610, 1638, 1718, 1758, 1786, 1799, 1812]) (len := 192) (off := 1786) (t := 1826) (ax_d X (show cdA 350 40 = some (.tableswitch 1837 0 43 #[192, 265, 293, 321, 334, 374, 435, 495, 535, 575, 627, 667, 719, 759, 787, 827, 855, 883, 911, 924, 937, 965, 993, 1021, 1061, 1074, 1102, 1142, 1170, 1210, 1250, 1290, 1342, 1382, 1410, 1466, 1530, 1610, 1638, 1718, 1758, 1786, 1799, 1812], 192, 0, 0, 0) from rfl)) (by decide) (by decide) (by decide) (by decide) ?_
        exact lc_41 G GR SF GT X E S hL I jR jFEQ p1 p2 p3 p4 (by omega) (by omega) (by omega) hk
      ·
        rw [gs]
        refine w_tabIn X.1 (dflt := 1837) (lo := 0) (hi := 43) (offs := #[192, 265, 293, 321, 334, 374, 435, 495, 535, 575, 627, 667, 719, 759, 787, 827, 855, 883, 911, 924, 937, 965, 993, 1021, 1061, 1074, 1102, 1142, 1170, 1210, 1250, 1290, 1342, 1382, 1410, 1466, 1530, 1610, 1638, 1718, 1758, 1786, 1799, 1812]) (len := 192) (off := 1799) (t := 1839) (ax_d X (show cdA 350 40 = some (.tableswitch 1837 0 43 #[192, 265, 293, 321, 334, 374, 435, 495, 535, 575, 627, 667, 719, 759, 787, 827, 855, 883, 911, 924, 937, 965, 993, 1021, 1061, 1074, 1102, 1142, 1170, 1210, 1250, 1290, 1342, 1382, 1410, 1466, 1530, 1610, 1638, 1718, 1758, 1786, 1799, 1812], 192, 0, 0, 0) from rfl)) (by decide) (by decide) (by decide) (by decide) ?_
        exact lc_42 G GR SF GT X E S hL I jR jFEQ p1 p2 p3 p4 (by omega) (by omega) (by omega) hk
      ·
        rw [gs]
        refine w_tabIn X.1 (dflt := 1837) (lo := 0) (hi := 43) (offs := #[192, 265, 293, 321, 334, 374, 435, 495, 535, 575, 627, 667, 719, 759, 787, 827, 855, 883, 911, 924, 937, 965, 993, 1021, 1061, 1074, 1102, 1142, 1170, 1210, 1250, 1290, 1342, 1382, 1410, 1466, 1530, 1610, 1638, 1718, 1758, 1786, 1799, 1812]) (len := 192) (off := 1812) (t := 1852) (ax_d X (show cdA 350 40 = some (.tableswitch 1837 0 43 #[192, 265, 293, 321, 334, 374, 435, 495, 535, 575, 627, 667, 719, 759, 787, 827, 855, 883, 911, 924, 937, 965, 993, 1021, 1061, 1074, 1102, 1142, 1170, 1210, 1250, 1290, 1342, 1382, 1410, 1466, 1530, 1610, 1638, 1718, 1758, 1786, 1799, 1812], 192, 0, 0, 0) from rfl)) (by decide) (by decide) (by decide) (by decide) ?_
        exact lc_43 G GR SF GT X E S hL I jR jFEQ p1 p2 p3 p4 (by omega) (by omega) (by omega) hk
      ·
        exact w_tabOut X.1 (dflt := 1837) (lo := 0) (hi := 43) (offs := #[192, 265, 293, 321, 334, 374, 435, 495, 535, 575, 627, 667, 719, 759, 787, 827, 855, 883, 911, 924, 937, 965, 993, 1021, 1061, 1074, 1102, 1142, 1170, 1210, 1250, 1290, 1342, 1382, 1410, 1466, 1530, 1610, 1638, 1718, 1758, 1786, 1799, 1812]) (len := 192) (t := 1877) (ax_d X (show cdA 350 40 = some (.tableswitch 1837 0 43 #[192, 265, 293, 321, 334, 374, 435, 495, 535, 575, 627, 667, 719, 759, 787, 827, 855, 883, 911, 924, 937, 965, 993, 1021, 1061, 1074, 1102, 1142, 1170, 1210, 1250, 1290, 1342, 1382, 1410, 1466, 1530, 1610, 1638, 1718, 1758, 1786, 1799, 1812], 192, 0, 0, 0) from rfl)) (by rw [zi ⟨by omega, by omega⟩]; omega) (by decide) (w_widen (ce' := 518 + 29 * m + 29) (sl' := 23524 + 222 * m + 222) (by omega) (by omega) (hk A s I jR jFEQ p1 p2 p3 p4))
end M88
