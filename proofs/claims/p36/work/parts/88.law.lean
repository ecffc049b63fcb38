theorem oq_5bf2829b : 8 + 1 ≤ 2048 := by omega
theorem oq_e23742ae : 8 + (6 + 11) + 147 ≤ 84000 := by omega
theorem oq_4d34cb53 : 6 + 1 ≤ 2048 := by omega
theorem oq_e10754c2 : 8 + (8 + 11) + 100 ≤ 84000 := by omega
theorem oq_f34933ba {a0 a1 a2 : Int} (h0 : a0 = a1) (h1 : a1 = a2) (h2 : a2 = 1) (h3 : 1 ≤ a2) : a0 = 1 := by omega
theorem oq_5655e407 : 10 + 1 ≤ 2048 := by omega
theorem oq_0b5c09a5 : 8 + (3 + 11) + 191 ≤ 84000 := by omega
theorem oq_0ed3bd18 : 61 + 1 ≤ 2048 := by omega
theorem oq_735d5381 : 8 + (3 + 11) + 2660 ≤ 84000 := by omega
theorem oq_a32dccc4 : 8 + (1 + 11) + 100 ≤ 84000 := by omega
theorem oq_4e6106eb : 7 + 1 ≤ 2048 := by omega
theorem oq_38d194b9 : 8 + (3 + 11) + 122 ≤ 84000 := by omega
theorem oq_380e4f97 : 8 + (6 + 11) + 122 ≤ 84000 := by omega
theorem oq_ebbf79c1 : 8 + (4 + 11) + 122 ≤ 84000 := by omega
theorem oq_263907be : 8 + (3 + 11) + 146 ≤ 84000 := by omega
theorem oq_2596b3cb : 37 + 1 ≤ 2048 := by omega
theorem oq_93887b04 : 8 + (5 + 11) + 1578 ≤ 84000 := by omega
theorem oq_dead3895 : 39 + 1 ≤ 2048 := by omega
theorem oq_16841511 : 8 + (5 + 11) + 1622 ≤ 84000 := by omega
theorem oq_1d601463 : 9 + 1 ≤ 2048 := by omega
theorem oq_485672f1 : 8 + (2 + 11) + 171 ≤ 84000 := by omega
theorem oq_da2b07c8 : 8 + (6 + 11) + 171 ≤ 84000 := by omega
theorem oq_f75bb075 : 8 + (7 + 11) + 122 ≤ 84000 := by omega
theorem oq_dd1cdbfa : 11 + 1 ≤ 2048 := by omega
theorem oq_c1432001 : 8 + (6 + 11) + 212 ≤ 84000 := by omega
theorem oq_b95bb2bf : 8 + (2 + 11) + 224 ≤ 84000 := by omega
theorem oq_2450e786 : 8 + (2 + 11) + 1622 ≤ 84000 := by omega
theorem oq_f781d9f4 : 12 + 1 ≤ 2048 := by omega
theorem oq_d9c24595 : 8 + (1 + 11) + 237 ≤ 84000 := by omega
theorem oq_2c2f0271 : 41 + 1 ≤ 2048 := by omega
theorem oq_260410fd : 8 + (1 + 11) + 1663 ≤ 84000 := by omega
theorem oq_38aede7b : 42 + 1 ≤ 2048 := by omega
theorem oq_b5fdcedd : 8 + (2 + 11) + 1687 ≤ 84000 := by omega
theorem oq_e190c71b : 8 + (3 + 11) + 1687 ≤ 84000 := by omega
theorem oq_a3fac05c : 38 + 1 ≤ 2048 := by omega
theorem oq_e81fc71d : 8 + (3 + 11) + 1601 ≤ 84000 := by omega
theorem oq_8731b8c0 : 8 + (2 + 11) + 100 ≤ 84000 := by omega
theorem oq_f09e007f : 8 + (2 + 11) + 122 ≤ 84000 := by omega
theorem oq_03e28196 : 62 + 1 ≤ 2048 := by omega
theorem oq_1f8b0a4c : 8 + (3 + 11) + 2686 ≤ 84000 := by omega
theorem oq_e8f78630 {a0 a1 a2 : Int} (h0 : 1 ≤ a0) (h1 : (a1 = 1 → a0 = 1)) (h2 : a1 = a2) (h3 : 1 ≤ a2) (h4 : a2 = 1) : a0 = 1 := by omega
theorem oq_5cbe2cb6 : 64 + 1 ≤ 2048 := by omega
theorem oq_276d7037 : 8 + (6 + 11) + 2742 ≤ 84000 := by omega
theorem oq_31d93303 : 8 + (4 + 11) + 2742 ≤ 84000 := by omega
theorem oq_151ba25b : 8 + (3 + 11) + 2742 ≤ 84000 := by omega
theorem oq_18c0abd8 {a0 a1 : Int} (h0 : a0 ≠ 0) (h1 : a0 = 0) : (-2147483648) ≤ a1 := by omega
theorem oq_3f990474 {a0 a1 : Int} (h0 : a0 ≠ 0) (h1 : a0 = 0) : a1 ≤ 2147483647 := by omega
theorem oq_69bdeeac {a0 a1 : Int} (h0 : a0 = 0) (h1 : a0 ≠ 0) : (-2147483648) ≤ a1 := by omega
theorem oq_4dd3cfdf {a0 a1 : Int} (h0 : a0 = 0) (h1 : a0 ≠ 0) : a1 ≤ 2147483647 := by omega
theorem oq_c67cc45d : 73 + 1 ≤ 2048 := by omega
theorem oq_f40e0be7 : 8 + (7 + 11) + 3227 ≤ 84000 := by omega
theorem oq_f8649f31 : 8 + (6 + 11) + 189 ≤ 84000 := by omega
theorem oq_8fd475f0 : 8 + (7 + 11) + 145 ≤ 84000 := by omega
theorem oq_d572abc1 : 8 + (10 + 11) + 1578 ≤ 84000 := by omega
theorem oq_b102b2ee : 8 + (6 + 11) + 1663 ≤ 84000 := by omega
theorem oq_24286ecc : 8 + (4 + 11) + 123 ≤ 84000 := by omega
theorem oq_23aa4b49 : 8 + (1 + 11) + 120 ≤ 84000 := by omega
theorem oq_6fd3db4b : 8 + (1 + 11) + 147 ≤ 84000 := by omega
theorem oq_ca72eefc : 8 + (2 + 11) + 143 ≤ 84000 := by omega
/-! The law's loop: a call of class and model each round -/
/-- the script's int at i -/
def sc (xs : Nat → Int32) (i : Int) : Int := (xs i.toNat).toInt
theorem sc_rng {xs : Nat → Int32} {i : Int} : rng (sc xs i) := rng_to _
/-- the script, as the law's activation sees it -/
def SX (k : kx_T) (b L : Nat) (xs : Nat → Int32) : Prop := va_X b L xs (kS k) (kS k).heap ∧ b < (kS k).heap.size ∧ ¬ kF k b
section ZS
variable {k : kx_T} {mn pc : Nat} {dT : Nat → ClassId} {lv : List (Nat × Value)} {st : List Value} {ws : va_W} {ce sl a b0 b L : Nat} {z : Int} {xs : Nat → Int32}
theorem sx_in {i c : Int} {L : Nat} (h : 0 ≤ i ∧ i + 6 ≤ (L : Int)) (k : 0 ≤ c ∧ c < 6) : 0 ≤ i + c ∧ i + c < (L : Int) := by omega
theorem rmo_1 {x a b n : Nat} (h : x + b ≤ n) (k : a ≤ b) : x + a ≤ n := by omega
theorem rmo_2 {x a c b n : Nat} (h : x + b ≤ n) (k : c + a ≤ b) : x + c + a ≤ n := by omega
theorem z_sld (X : AX k mn dT) (S : SX k b L xs) (hL : L ≤ 3072) {i : Int} (h : cdA mn pc = some (.iaload, 1, a, b0, z)) (hi : 0 ≤ i ∧ i < (L : Int)) (g : WS k (pc + 1) lv (.int (Int32.ofInt (sc xs i)) :: st) ws ce sl) : WS k pc lv (.int (Int32.ofInt i) :: .ref b :: st) ws ce sl := by
  have e : xs (Int32.ofInt i).toNatClampNeg = Int32.ofInt (sc xs i) := by
    rw [on_of hi.1, on_cl (by omega)]
    exact (ofi_to _).symm
  rw [on_of hi.1] at e ⊢
  refine w_sld X.1 S.1 S.2.1 S.2.2 (on_in (by omega) (by omega)) (ax_d X h) ?_
  rw [e]
  exact g
theorem z_slen (X : AX k mn dT) (S : SX k b L xs) (hL : L ≤ 3072) (h : cdA mn pc = some (.arraylength, 1, a, b0, z)) (g : WS k (pc + 1) lv (.int (Int32.ofInt (L : Int)) :: st) ws ce sl) : WS k pc lv (.ref b :: st) ws ce sl := by
  refine w_slen X.1 S.1 S.2.1 S.2.2 (ax_d X h) ?_
  have e : Int32.ofNat L = Int32.ofInt (L : Int) := by
    have h9 := on_of (z := (L : Int)) (by omega)
    have h8 : ((L : Int)).toNat = L := by omega
    rw [h8] at h9
    exact h9.symm
  rw [e]
  exact g
theorem z_lO {A : Nat → Nat} {s : PS} (X : AX k mn dT) (h : cdA mn pc = some (.laload, 1, 0, 0, 0)) (g : WS k (pc + 1) lv (.long (gD s 460 0) :: st) (Wd A dT s) ce sl) : WS k pc lv (.int (Int32.ofInt 0) :: .ref (A 517) :: st) (Wd A dT s) ce sl :=
  s_lald X 517 (n := 1) (a := 460) (i := 0) h (by decide) rfl (by decide) (by decide) g
theorem lcmp_0 {x y : Int64} : lg_cmp x y = 0 ↔ x = y := lg_cmp_eq x y
theorem z_lc {s : PS} {b : Int} (hb : rng b) (g : ∀ c : Int, rng c → ((c = 0 ∧ iO s = b) ∨ (c ≠ 0 ∧ iO s ≠ b)) → WS k pc lv (.int (Int32.ofInt c) :: st) ws ce sl) : WS k pc lv (.int (lg_cmp (gD s 460 0) (Int32.ofInt b).toInt64) :: st) ws ce sl := by
  have h9 := g (lg_cmp (gD s 460 0) (Int32.ofInt b).toInt64).toInt (rng_to _)
  rw [ofi_to] at h9
  refine h9 ?_
  have e1 : (Int32.ofInt b).toInt64.toInt = b := by rw [Int32.toInt_toInt64, zi hb]
  by_cases q : gD s 460 0 = (Int32.ofInt b).toInt64
  · refine Or.inl ⟨by rw [lcmp_0.mpr q]; rfl, ?_⟩
    show (gD s 460 0).toInt = b
    rw [q, e1]
  · refine Or.inr ⟨fun z => q (lcmp_0.mp (Int32.toInt_inj.mp (show _ = (0 : Int32).toInt from z))), fun z => q (Int64.toInt_inj.mp ?_)⟩
    rw [e1]
    exact z
end ZS
theorem SEQ_fm {L M : List Nat} {s t : PS} (F : Fm L M s t) (h : 1000 ∉ L ∧ 1001 ∉ L ∧ 399 ∉ M) (r : SEQ s) : SEQ t := seq_same r (sbs_fm F ⟨h.1, h.2.1⟩) (sam_fm F h.2.2)
section M88
variable {l : Launch} {s0 : State} {D : va_G} {tys : List (ClassId × FieldType)} {a0 : Array Value} {A : Nat → Nat} {dT : Nat → ClassId} {s : PS}
theorem lc_0 (G : GX l s0 D tys a0 dT) (GR : RS0 s0) (SF : SF0 s0) (GT : TXs0 s0) {k : kx_T} (X : AX k 350 dT) (E : kL k = l ∧ kS0 k = s0 ∧ kD k = D ∧ kR k = room_1) {q1 L : Nat} {xs : Nat → Int32} (S : SX k q1 L xs) (hL : L ≤ 3072) (I : Bd s) (jR : RLx s) (jSEQ : SEQ s) (p1 : iI s 89 = 1) (p2 : iI s 12 ≤ 8) {i : Int} (hi : 0 ≤ i ∧ i + 6 ≤ (L : Int)) {ce sl : Nat} (hce : ce + 29 ≤ 601024) (hsl : sl + 222 ≤ 7293034) (hk : ∀ (A : Nat → Nat) (t : PS), Bd t → RLx t → SEQ t → iI t 89 = 1 → iI t 12 ≤ 8 → WS k 1901 [(0, .ref q1), (1, .ref (A 0)), (2, .ref (A 179)), (3, .ref (A 517)), (4, .int (Int32.ofInt i))] [] (Wd A dT t) (ce + 29) (sl + 222)) : WS k 232 [(0, .ref q1), (1, .ref (A 0)), (2, .ref (A 179)), (3, .ref (A 517)), (4, .int (Int32.ofInt i))] [] (Wd A dT s) ce sl := by
  have F : Fm [0, 73, 74] [0, 157] s s := fm_rf _ _ s
  have b1 := bi_12 I
  have b2 := bi_89 I
  refine z_aload_n X (x := A 0) rfl (List.Mem.tail _ (List.Mem.head _)) (z_aload_n X (x := q1) rfl (List.Mem.head _) (z_load X (x := i) rfl (List.Mem.tail _ (List.Mem.tail _ (List.Mem.tail _ (List.Mem.tail _ (List.Mem.head _))))) (z_const X rfl (z_add X rfl (z_sld X S hL rfl (show 0 ≤ (i + 1) ∧ (i + 1) < (L : Int) by first | exact sx_in hi (by decide) | omega) ?_)))))
  have sr3 : rng (sc xs (i + 1)) := sc_rng
  refine z_aload_n X (x := q1) rfl (List.Mem.head _) (z_load X (x := i) rfl (List.Mem.tail _ (List.Mem.tail _ (List.Mem.tail _ (List.Mem.tail _ (List.Mem.head _))))) (z_const X rfl (z_add X rfl (z_sld X S hL rfl (show 0 ≤ (i + 2) ∧ (i + 2) < (L : Int) by first | exact sx_in hi (by decide) | omega) ?_))))
  have sr4 : rng (sc xs (i + 2)) := sc_rng
  refine z_aload_n X (x := q1) rfl (List.Mem.head _) (z_load X (x := i) rfl (List.Mem.tail _ (List.Mem.tail _ (List.Mem.tail _ (List.Mem.tail _ (List.Mem.head _))))) (z_const X rfl (z_add X rfl (z_sld X S hL rfl (show 0 ≤ (i + 3) ∧ (i + 3) < (L : Int) by first | exact sx_in hi (by decide) | omega) ?_))))
  have sr5 : rng (sc xs (i + 3)) := sc_rng
  refine z_aload_n X (x := q1) rfl (List.Mem.head _) (z_load X (x := i) rfl (List.Mem.tail _ (List.Mem.tail _ (List.Mem.tail _ (List.Mem.tail _ (List.Mem.head _))))) (z_const X rfl (z_add X rfl (z_sld X S hL rfl (show 0 ≤ (i + 4) ∧ (i + 4) < (L : Int) by first | exact sx_in hi (by decide) | omega) ?_))))
  have sr6 : rng (sc xs (i + 4)) := sc_rng
  refine z_aload_n X (x := q1) rfl (List.Mem.head _) (z_load X (x := i) rfl (List.Mem.tail _ (List.Mem.tail _ (List.Mem.tail _ (List.Mem.tail _ (List.Mem.head _))))) (z_const X rfl (z_add X rfl (z_sld X S hL rfl (show 0 ≤ (i + 5) ∧ (i + 5) < (L : Int) by first | exact sx_in hi (by decide) | omega) ?_))))
  have sr7 : rng (sc xs (i + 5)) := sc_rng
  refine z_callV X 0 (rm := rmN 135) (As := [.int (Int32.ofInt (sc xs (i + 1))), .int (Int32.ofInt (sc xs (i + 2))), .int (Int32.ofInt (sc xs (i + 3))), .int (Int32.ofInt (sc xs (i + 4))), .int (Int32.ofInt (sc xs (i + 5)))]) (st := []) rfl rfl (by decide) rfl (by rw [E.1, E.2.1, E.2.2.1]; exact cs_feed G I (by first | exact ⟨sr3.1, sr3.2⟩ | omega) (by first | exact ⟨sr4.1, sr4.2⟩ | omega) (by first | exact ⟨sr5.1, sr5.2⟩ | omega) (by first | exact ⟨sr6.1, sr6.2⟩ | omega) (by first | exact ⟨sr7.1, sr7.2⟩ | omega)) ⟨by rw [E.2.2.2]; exact (show 8 + 1 ≤ 2048 from oq_5bf2829b), by rw [E.2.2.2]; exact (show 8 + (6 + 11) + 147 ≤ 84000 from oq_e23742ae), by rw [E.2.2.2]; exact (show ce + 0 ≤ 601024 by omega), by rw [E.2.2.2]; exact (show sl + 0 ≤ 7293034 by omega)⟩ (Nat.le_of_ble_eq_true rfl) (fun vv s8 hq => ?_) (fun ee s8 hq => ?_)
  rotate_left
  · obtain ⟨Is8, Fs8, e9, hv, hrs8, hps8⟩ := hq; cases hv
  obtain ⟨Is8, Fs8, e9, hv, hrs8, hps8⟩ := hq
  cases hv
  have Gs8 := fm_tq F Fs8 rfl rfl
  have JRLx_s8 : RLx s8 := RLx_fm Fs8 (by decide) jR
  have JSEQ_s8 : SEQ s8 := SEQ_fm Fs8 (by decide) jSEQ
  have ws8_12 : iI s8 12 = iI s 12 := fm_iq Fs8 rfl
  have ws8_89 : iI s8 89 = iI s 89 := fm_iq Fs8 rfl
  have wos8 : iO s8 = iO s := fm_o Fs8 (by decide)
  show WS k 266 [(0, .ref q1), (1, .ref (A 0)), (2, .ref (A 179)), (3, .ref (A 517)), (4, .int (Int32.ofInt i))] [.int (Int32.ofInt e9)] (Wd A dT s8) ce sl
  refine w_pop X.1 (ax_d X (show cdA 350 266 = some (.pop, 1, 0, 0, 0) from rfl)) rfl (z_aload_n X (x := A 179) rfl (List.Mem.tail _ (List.Mem.tail _ (List.Mem.head _))) (z_aload_n X (x := q1) rfl (List.Mem.head _) (z_load X (x := i) rfl (List.Mem.tail _ (List.Mem.tail _ (List.Mem.tail _ (List.Mem.tail _ (List.Mem.head _))))) (z_const X rfl (z_add X rfl (z_sld X S hL rfl (show 0 ≤ (i + 1) ∧ (i + 1) < (L : Int) by first | exact sx_in hi (by decide) | omega) ?_))))))
  have sr10 : rng (sc xs (i + 1)) := sc_rng
  refine z_aload_n X (x := q1) rfl (List.Mem.head _) (z_load X (x := i) rfl (List.Mem.tail _ (List.Mem.tail _ (List.Mem.tail _ (List.Mem.tail _ (List.Mem.head _))))) (z_const X rfl (z_add X rfl (z_sld X S hL rfl (show 0 ≤ (i + 2) ∧ (i + 2) < (L : Int) by first | exact sx_in hi (by decide) | omega) ?_))))
  have sr11 : rng (sc xs (i + 2)) := sc_rng
  refine z_aload_n X (x := q1) rfl (List.Mem.head _) (z_load X (x := i) rfl (List.Mem.tail _ (List.Mem.tail _ (List.Mem.tail _ (List.Mem.tail _ (List.Mem.head _))))) (z_const X rfl (z_add X rfl (z_sld X S hL rfl (show 0 ≤ (i + 3) ∧ (i + 3) < (L : Int) by first | exact sx_in hi (by decide) | omega) ?_))))
  have sr12 : rng (sc xs (i + 3)) := sc_rng
  refine z_aload_n X (x := q1) rfl (List.Mem.head _) (z_load X (x := i) rfl (List.Mem.tail _ (List.Mem.tail _ (List.Mem.tail _ (List.Mem.tail _ (List.Mem.head _))))) (z_const X rfl (z_add X rfl (z_sld X S hL rfl (show 0 ≤ (i + 4) ∧ (i + 4) < (L : Int) by first | exact sx_in hi (by decide) | omega) ?_))))
  have sr13 : rng (sc xs (i + 4)) := sc_rng
  refine z_aload_n X (x := q1) rfl (List.Mem.head _) (z_load X (x := i) rfl (List.Mem.tail _ (List.Mem.tail _ (List.Mem.tail _ (List.Mem.tail _ (List.Mem.head _))))) (z_const X rfl (z_add X rfl (z_sld X S hL rfl (show 0 ≤ (i + 5) ∧ (i + 5) < (L : Int) by first | exact sx_in hi (by decide) | omega) ?_))))
  have sr14 : rng (sc xs (i + 5)) := sc_rng
  refine z_callV X 179 (rm := rmN 191) (As := [.int (Int32.ofInt (sc xs (i + 1))), .int (Int32.ofInt (sc xs (i + 2))), .int (Int32.ofInt (sc xs (i + 3))), .int (Int32.ofInt (sc xs (i + 4))), .int (Int32.ofInt (sc xs (i + 5)))]) (st := []) rfl rfl (by decide) rfl (by rw [E.1, E.2.1, E.2.2.1]; exact k_feed G Is8 (by first | exact ⟨sr10.1, sr10.2⟩ | omega) (by first | exact ⟨sr11.1, sr11.2⟩ | omega) (by first | exact ⟨sr12.1, sr12.2⟩ | omega) (by first | exact ⟨sr13.1, sr13.2⟩ | omega) (by first | exact ⟨sr14.1, sr14.2⟩ | omega)) ⟨by rw [E.2.2.2]; exact (show 6 + 1 ≤ 2048 from oq_4d34cb53), by rw [E.2.2.2]; exact (show 8 + (8 + 11) + 100 ≤ 84000 from oq_e10754c2), by rw [E.2.2.2]; exact (show ce + 0 ≤ 601024 by first | (clear hps8; omega) | omega), by rw [E.2.2.2]; exact (show sl + 0 ≤ 7293034 by first | (clear hps8; omega) | omega)⟩ (Nat.le_of_ble_eq_true rfl) (fun vv s15 hq => ?_) (fun ee s15 hq => ?_)
  rotate_left
  · obtain ⟨Is15, Fs15, e16, hv, hrs15, hps15⟩ := hq; cases hv
  obtain ⟨Is15, Fs15, e16, hv, hrs15, hps15⟩ := hq
  cases hv
  have Gs15 := fm_tq Gs8 Fs15 rfl rfl
  have JRLx_s15 : RLx s15 := RLx_fm Fs15 (by decide) JRLx_s8
  have JSEQ_s15 : SEQ s15 := SEQ_fm Fs15 (by decide) JSEQ_s8
  have ws15_12 : iI s15 12 = iI s8 12 := fm_iq Fs15 rfl
  have ws15_89 : iI s15 89 = iI s8 89 := fm_iq Fs15 rfl
  have wos15 : iO s15 = iO s8 := fm_o Fs15 (by decide)
  show WS k 301 [(0, .ref q1), (1, .ref (A 0)), (2, .ref (A 179)), (3, .ref (A 517)), (4, .int (Int32.ofInt i))] [.int (Int32.ofInt e16)] (Wd A dT s15) ce sl
  refine w_pop X.1 (ax_d X (show cdA 350 301 = some (.pop, 1, 0, 0, 0) from rfl)) rfl (z_goto X (t := 1901) rfl rfl (w_widen (ce' := ce + 29) (sl' := sl + 222) (by first | exact Nat.le_add_right _ _ | exact Nat.add_le_add_left (by decide) _ | omega) (by first | exact Nat.le_add_right _ _ | exact Nat.add_le_add_left (by decide) _ | omega) ?_))
  exact WS_lv (lv := [(0, .ref q1), (1, .ref (A 0)), (2, .ref (A 179)), (3, .ref (A 517)), (4, .int (Int32.ofInt i))]) (List.forall_mem_cons.mpr ⟨(List.Mem.head _), (List.forall_mem_cons.mpr ⟨(List.Mem.tail _ (List.Mem.head _)), (List.forall_mem_cons.mpr ⟨(List.Mem.tail _ (List.Mem.tail _ (List.Mem.head _))), (List.forall_mem_cons.mpr ⟨(List.Mem.tail _ (List.Mem.tail _ (List.Mem.tail _ (List.Mem.head _)))), (List.forall_mem_cons.mpr ⟨(List.Mem.tail _ (List.Mem.tail _ (List.Mem.tail _ (List.Mem.tail _ (List.Mem.head _))))), (fun q h => absurd h List.not_mem_nil)⟩)⟩)⟩)⟩)⟩) (hk A _ Is15 JRLx_s15 JSEQ_s15 (by first | exact oq_f34933ba ws15_89 ws8_89 p1 b2.1 | omega) (by first | exact oq_d7ce4408 ws15_12 ws8_12 p2 | omega))
theorem lc_1 (G : GX l s0 D tys a0 dT) (GR : RS0 s0) (SF : SF0 s0) (GT : TXs0 s0) {k : kx_T} (X : AX k 350 dT) (E : kL k = l ∧ kS0 k = s0 ∧ kD k = D ∧ kR k = room_1) {q1 L : Nat} {xs : Nat → Int32} (S : SX k q1 L xs) (hL : L ≤ 3072) (I : Bd s) (jR : RLx s) (jSEQ : SEQ s) (p1 : iI s 89 = 1) (p2 : iI s 12 ≤ 8) {i : Int} (hi : 0 ≤ i ∧ i + 6 ≤ (L : Int)) {ce sl : Nat} (hce : ce + 29 ≤ 601024) (hsl : sl + 222 ≤ 7293034) (hk : ∀ (A : Nat → Nat) (t : PS), Bd t → RLx t → SEQ t → iI t 89 = 1 → iI t 12 ≤ 8 → WS k 1901 [(0, .ref q1), (1, .ref (A 0)), (2, .ref (A 179)), (3, .ref (A 517)), (4, .int (Int32.ofInt i))] [] (Wd A dT t) (ce + 29) (sl + 222)) : WS k 305 [(0, .ref q1), (1, .ref (A 0)), (2, .ref (A 179)), (3, .ref (A 517)), (4, .int (Int32.ofInt i))] [] (Wd A dT s) ce sl := by
  have F : Fm [11, 9, 10, 2, 4, 6, 5, 1, 3, 0, 7, 8, 73, 74, 76, 90, 91, 77, 75, 78, 79, 80, 81] [15, 1, 2, 6, 1003, 1004, 1005, 1007, 1460, 165, 162, 166, 167, 168, 169, 170, 171, 172, 173, 174, 175, 176, 177, 178, 179, 180, 181, 182, 183, 184, 185, 186, 187, 188, 189] s s := fm_rf _ _ s
  have b1 := bi_12 I
  have b2 := bi_89 I
  refine z_aload_n X (x := A 0) rfl (List.Mem.tail _ (List.Mem.head _)) (z_aload_n X (x := q1) rfl (List.Mem.head _) (z_load X (x := i) rfl (List.Mem.tail _ (List.Mem.tail _ (List.Mem.tail _ (List.Mem.tail _ (List.Mem.head _))))) (z_const X rfl (z_add X rfl (z_sld X S hL rfl (show 0 ≤ (i + 1) ∧ (i + 1) < (L : Int) by first | exact sx_in hi (by decide) | omega) ?_)))))
  have sr3 : rng (sc xs (i + 1)) := sc_rng
  refine z_aload_n X (x := A 517) rfl (List.Mem.tail _ (List.Mem.tail _ (List.Mem.tail _ (List.Mem.head _)))) (z_callL X (rm := rmN 314) (As := [.ref (A 0), .int (Int32.ofInt (sc xs (i + 1))), .ref (A 517)]) (st := []) rfl (by decide) rfl (by rw [E.1, E.2.1, E.2.2.1]; exact lw_stream G I (by omega)) ⟨by rw [E.2.2.2]; exact (show 11 + 1 ≤ 2048 by decide), by rw [E.2.2.2]; exact (show 8 + (4 + 11) + 213 ≤ 84000 by decide), by rw [E.2.2.2]; exact (show ce + 1 ≤ 601024 by first | exact rmo_1 hce (by decide) | exact rmo_2 hce (by decide) | omega), by rw [E.2.2.2]; exact (show sl + 6 ≤ 7293034 by first | exact rmo_1 hsl (by decide) | exact rmo_2 hsl (by decide) | omega)⟩ (Nat.le_of_ble_eq_true rfl) (fun vv A s4 hA2 hq => ?_) (fun ee A s4 hA2 hq => ?_))
  rotate_left
  · obtain ⟨Is4, Fs4, e5, hv, hrs4, hps4⟩ := hq; cases hv
  obtain ⟨Is4, Fs4, e5, hv, hrs4, hps4⟩ := hq
  cases hv
  rw [← hA2 0 (by decide)]
  rw [← hA2 179 (by decide)]
  rw [← hA2 517 (by decide)]
  have Gs4 := fm_tq F Fs4 rfl rfl
  have JRLx_s4 : RLx s4 := RLx_fm Fs4 (by decide) jR
  have JSEQ_s4 : SEQ s4 := SEQ_fm Fs4 (by decide) jSEQ
  have ws4_12 : iI s4 12 = iI s 12 := fm_iq Fs4 rfl
  have ws4_89 : iI s4 89 = iI s 89 := fm_iq Fs4 rfl
  show WS k 316 [(0, .ref q1), (1, .ref (A 0)), (2, .ref (A 179)), (3, .ref (A 517)), (4, .int (Int32.ofInt i))] [.int (Int32.ofInt e5)] (Wd A dT s4) (ce + 1) (sl + 6)
  refine z_store X (lv' := [(5, .int (Int32.ofInt e5)), (0, .ref q1), (1, .ref (A 0)), (2, .ref (A 179)), (3, .ref (A 517)), (4, .int (Int32.ofInt i))]) rfl (by decide) (fun _ h => h) (z_aload_n X (x := A 179) rfl (List.Mem.tail _ (List.Mem.tail _ (List.Mem.tail _ (List.Mem.head _)))) (z_aload_n X (x := q1) rfl (List.Mem.tail _ (List.Mem.head _)) (z_load X (x := i) rfl (List.Mem.tail _ (List.Mem.tail _ (List.Mem.tail _ (List.Mem.tail _ (List.Mem.tail _ (List.Mem.head _)))))) (z_const X rfl (z_add X rfl (z_sld X S hL rfl (show 0 ≤ (i + 1) ∧ (i + 1) < (L : Int) by first | exact sx_in hi (by decide) | omega) ?_))))))
  have sr6 : rng (sc xs (i + 1)) := sc_rng
  refine z_callV X 179 (rm := rmN 200) (As := [.int (Int32.ofInt (sc xs (i + 1)))]) (st := []) rfl rfl (by decide) rfl (by rw [E.1, E.2.1, E.2.2.1]; exact k_stream G Is4 JRLx_s4 (by first | exact ⟨sr6.1, sr6.2⟩ | omega)) ⟨by rw [E.2.2.2]; exact (show 10 + 1 ≤ 2048 from oq_5655e407), by rw [E.2.2.2]; exact (show 8 + (3 + 11) + 191 ≤ 84000 from oq_0b5c09a5), by rw [E.2.2.2]; exact (show (ce + 1) + 0 ≤ 601024 by first | (clear hps4; omega) | omega), by rw [E.2.2.2]; exact (show (sl + 6) + 0 ≤ 7293034 by first | (clear hps4; omega) | omega)⟩ (Nat.le_of_ble_eq_true rfl) (fun vv s7 hq => ?_) (fun ee s7 hq => ?_)
  rotate_left
  · obtain ⟨Is7, Fs7, JRLx_s7, e8, hv, hrs7, hps7⟩ := hq; cases hv
  obtain ⟨Is7, Fs7, JRLx_s7, e8, hv, hrs7, hps7⟩ := hq
  cases hv
  have Gs7 := fm_tq Gs4 Fs7 rfl rfl
  have JSEQ_s7 : SEQ s7 := SEQ_fm Fs7 (by decide) JSEQ_s4
  have ws7_12 : iI s7 12 = iI s4 12 := fm_iq Fs7 rfl
  have ws7_89 : iI s7 89 = iI s4 89 := fm_iq Fs7 rfl
  have wos7 : iO s7 = iO s4 := fm_o Fs7 (by decide)
  show WS k 328 [(5, .int (Int32.ofInt e5)), (0, .ref q1), (1, .ref (A 0)), (2, .ref (A 179)), (3, .ref (A 517)), (4, .int (Int32.ofInt i))] [.int (Int32.ofInt e8)] (Wd A dT s7) (ce + 1) (sl + 6)
  refine z_store X (lv' := [(6, .int (Int32.ofInt e8)), (5, .int (Int32.ofInt e5)), (0, .ref q1), (1, .ref (A 0)), (2, .ref (A 179)), (3, .ref (A 517)), (4, .int (Int32.ofInt i))]) rfl (by decide) (fun _ h => h) (z_goto X (t := 1901) rfl rfl (w_widen (ce' := ce + 29) (sl' := sl + 222) (by first | exact Nat.le_add_right _ _ | exact Nat.add_le_add_left (by decide) _ | omega) (by first | exact Nat.le_add_right _ _ | exact Nat.add_le_add_left (by decide) _ | omega) ?_))
  exact WS_lv (lv := [(0, .ref q1), (1, .ref (A 0)), (2, .ref (A 179)), (3, .ref (A 517)), (4, .int (Int32.ofInt i))]) (List.forall_mem_cons.mpr ⟨(List.Mem.tail _ (List.Mem.tail _ (List.Mem.head _))), (List.forall_mem_cons.mpr ⟨(List.Mem.tail _ (List.Mem.tail _ (List.Mem.tail _ (List.Mem.head _)))), (List.forall_mem_cons.mpr ⟨(List.Mem.tail _ (List.Mem.tail _ (List.Mem.tail _ (List.Mem.tail _ (List.Mem.head _))))), (List.forall_mem_cons.mpr ⟨(List.Mem.tail _ (List.Mem.tail _ (List.Mem.tail _ (List.Mem.tail _ (List.Mem.tail _ (List.Mem.head _)))))), (List.forall_mem_cons.mpr ⟨(List.Mem.tail _ (List.Mem.tail _ (List.Mem.tail _ (List.Mem.tail _ (List.Mem.tail _ (List.Mem.tail _ (List.Mem.head _))))))), (fun q h => absurd h List.not_mem_nil)⟩)⟩)⟩)⟩)⟩) (hk A _ Is7 JRLx_s7 JSEQ_s7 (by first | exact oq_f34933ba ws7_89 ws4_89 p1 b2.1 | omega) (by first | exact oq_d7ce4408 ws7_12 ws4_12 p2 | omega))
theorem lc_2 (G : GX l s0 D tys a0 dT) (GR : RS0 s0) (SF : SF0 s0) (GT : TXs0 s0) {k : kx_T} (X : AX k 350 dT) (E : kL k = l ∧ kS0 k = s0 ∧ kD k = D ∧ kR k = room_1) {q1 L : Nat} {xs : Nat → Int32} (S : SX k q1 L xs) (hL : L ≤ 3072) (I : Bd s) (jR : RLx s) (jSEQ : SEQ s) (p1 : iI s 89 = 1) (p2 : iI s 12 ≤ 8) {i : Int} (hi : 0 ≤ i ∧ i + 6 ≤ (L : Int)) {ce sl : Nat} (hce : ce + 29 ≤ 601024) (hsl : sl + 222 ≤ 7293034) (hk : ∀ (A : Nat → Nat) (t : PS), Bd t → RLx t → SEQ t → iI t 89 = 1 → iI t 12 ≤ 8 → WS k 1901 [(0, .ref q1), (1, .ref (A 0)), (2, .ref (A 179)), (3, .ref (A 517)), (4, .int (Int32.ofInt i))] [] (Wd A dT t) (ce + 29) (sl + 222)) : WS k 333 [(0, .ref q1), (1, .ref (A 0)), (2, .ref (A 179)), (3, .ref (A 517)), (4, .int (Int32.ofInt i))] [] (Wd A dT s) ce sl := by
  have F : Fm [2, 4, 6, 5, 7, 8, 19, 16, 17, 18, 12, 13, 14, 15, 1, 3, 0, 73, 74, 76, 82, 83, 84, 85, 77, 75, 78, 79, 80, 81, 86, 87, 88] [16, 17, 18, 19, 1460, 160, 159, 158] s s := fm_rf _ _ s
  have b1 := bi_12 I
  have b2 := bi_89 I
  refine z_aload_n X (x := A 0) rfl (List.Mem.tail _ (List.Mem.head _)) (z_aload_n X (x := q1) rfl (List.Mem.head _) (z_load X (x := i) rfl (List.Mem.tail _ (List.Mem.tail _ (List.Mem.tail _ (List.Mem.tail _ (List.Mem.head _))))) (z_const X rfl (z_add X rfl (z_sld X S hL rfl (show 0 ≤ (i + 1) ∧ (i + 1) < (L : Int) by first | exact sx_in hi (by decide) | omega) ?_)))))
  have sr3 : rng (sc xs (i + 1)) := sc_rng
  refine z_aload_n X (x := A 517) rfl (List.Mem.tail _ (List.Mem.tail _ (List.Mem.tail _ (List.Mem.head _)))) (z_callL X (rm := rmN 315) (As := [.ref (A 0), .int (Int32.ofInt (sc xs (i + 1))), .ref (A 517)]) (st := []) rfl (by decide) rfl (by rw [E.1, E.2.1, E.2.2.1]; exact lw_rules G SF GT I (by omega) (by omega)) ⟨by rw [E.2.2.2]; exact (show 71 + 1 ≤ 2048 by decide), by rw [E.2.2.2]; exact (show 8 + (4 + 11) + 3060 ≤ 84000 by decide), by rw [E.2.2.2]; exact (show ce + 1 ≤ 601024 by first | exact rmo_1 hce (by decide) | exact rmo_2 hce (by decide) | omega), by rw [E.2.2.2]; exact (show sl + 6 ≤ 7293034 by first | exact rmo_1 hsl (by decide) | exact rmo_2 hsl (by decide) | omega)⟩ (Nat.le_of_ble_eq_true rfl) (fun vv A s4 hA2 hq => ?_) (fun ee A s4 hA2 hq => ?_))
  rotate_left
  · obtain ⟨Is4, Fs4, e5, hv, hrs4, hps4⟩ := hq; cases hv
  obtain ⟨Is4, Fs4, e5, hv, hrs4, hps4⟩ := hq
  have hps4p := hps4.2
  cases hv
  rw [← hA2 0 (by decide)]
  rw [← hA2 179 (by decide)]
  rw [← hA2 517 (by decide)]
  have Gs4 := fm_tq F Fs4 rfl rfl
  have JRLx_s4 : RLx s4 := RLx_fm Fs4 (by decide) jR
  have JSEQ_s4 : SEQ s4 := SEQ_fm Fs4 (by decide) jSEQ
  have b6 := bi_12 Is4
  have ws4_89 : iI s4 89 = iI s 89 := fm_iq Fs4 rfl
  show WS k 344 [(0, .ref q1), (1, .ref (A 0)), (2, .ref (A 179)), (3, .ref (A 517)), (4, .int (Int32.ofInt i))] [.int (Int32.ofInt e5)] (Wd A dT s4) (ce + 1) (sl + 6)
  refine z_store X (lv' := [(5, .int (Int32.ofInt e5)), (0, .ref q1), (1, .ref (A 0)), (2, .ref (A 179)), (3, .ref (A 517)), (4, .int (Int32.ofInt i))]) rfl (by decide) (fun _ h => h) (z_aload_n X (x := A 179) rfl (List.Mem.tail _ (List.Mem.tail _ (List.Mem.tail _ (List.Mem.head _)))) (z_aload_n X (x := q1) rfl (List.Mem.tail _ (List.Mem.head _)) (z_load X (x := i) rfl (List.Mem.tail _ (List.Mem.tail _ (List.Mem.tail _ (List.Mem.tail _ (List.Mem.tail _ (List.Mem.head _)))))) (z_const X rfl (z_add X rfl (z_sld X S hL rfl (show 0 ≤ (i + 1) ∧ (i + 1) < (L : Int) by first | exact sx_in hi (by decide) | omega) ?_))))))
  have sr7 : rng (sc xs (i + 1)) := sc_rng
  refine z_callV X 179 (rm := rmN 214) (As := [.int (Int32.ofInt (sc xs (i + 1)))]) (st := []) rfl rfl (by decide) rfl (by rw [E.1, E.2.1, E.2.2.1]; exact k_rules G Is4 (by first | exact ⟨sr7.1, sr7.2⟩ | omega)) ⟨by rw [E.2.2.2]; exact (show 61 + 1 ≤ 2048 from oq_0ed3bd18), by rw [E.2.2.2]; exact (show 8 + (3 + 11) + 2660 ≤ 84000 from oq_735d5381), by rw [E.2.2.2]; exact (show (ce + 1) + 0 ≤ 601024 by first | (clear hps4; omega) | omega), by rw [E.2.2.2]; exact (show (sl + 6) + 0 ≤ 7293034 by first | (clear hps4; omega) | omega)⟩ (Nat.le_of_ble_eq_true rfl) (fun vv s8 hq => ?_) (fun ee s8 hq => ?_)
  rotate_left
  · obtain ⟨Is8, Fs8, e9, hv, hrs8, hps8⟩ := hq; cases hv
  obtain ⟨Is8, Fs8, e9, hv, hrs8, hps8⟩ := hq
  cases hv
  have Gs8 := fm_tq Gs4 Fs8 rfl rfl
  have JRLx_s8 : RLx s8 := RLx_fm Fs8 (by decide) JRLx_s4
  have JSEQ_s8 : SEQ s8 := SEQ_fm Fs8 (by decide) JSEQ_s4
  have ws8_12 : iI s8 12 = iI s4 12 := fm_iq Fs8 rfl
  have ws8_89 : iI s8 89 = iI s4 89 := fm_iq Fs8 rfl
  have wos8 : iO s8 = iO s4 := fm_o Fs8 (by decide)
  show WS k 356 [(5, .int (Int32.ofInt e5)), (0, .ref q1), (1, .ref (A 0)), (2, .ref (A 179)), (3, .ref (A 517)), (4, .int (Int32.ofInt i))] [.int (Int32.ofInt e9)] (Wd A dT s8) (ce + 1) (sl + 6)
  refine z_store X (lv' := [(6, .int (Int32.ofInt e9)), (5, .int (Int32.ofInt e5)), (0, .ref q1), (1, .ref (A 0)), (2, .ref (A 179)), (3, .ref (A 517)), (4, .int (Int32.ofInt i))]) rfl (by decide) (fun _ h => h) (z_goto X (t := 1901) rfl rfl (w_widen (ce' := ce + 29) (sl' := sl + 222) (by first | exact Nat.le_add_right _ _ | exact Nat.add_le_add_left (by decide) _ | omega) (by first | exact Nat.le_add_right _ _ | exact Nat.add_le_add_left (by decide) _ | omega) ?_))
  exact WS_lv (lv := [(0, .ref q1), (1, .ref (A 0)), (2, .ref (A 179)), (3, .ref (A 517)), (4, .int (Int32.ofInt i))]) (List.forall_mem_cons.mpr ⟨(List.Mem.tail _ (List.Mem.tail _ (List.Mem.head _))), (List.forall_mem_cons.mpr ⟨(List.Mem.tail _ (List.Mem.tail _ (List.Mem.tail _ (List.Mem.head _)))), (List.forall_mem_cons.mpr ⟨(List.Mem.tail _ (List.Mem.tail _ (List.Mem.tail _ (List.Mem.tail _ (List.Mem.head _))))), (List.forall_mem_cons.mpr ⟨(List.Mem.tail _ (List.Mem.tail _ (List.Mem.tail _ (List.Mem.tail _ (List.Mem.tail _ (List.Mem.head _)))))), (List.forall_mem_cons.mpr ⟨(List.Mem.tail _ (List.Mem.tail _ (List.Mem.tail _ (List.Mem.tail _ (List.Mem.tail _ (List.Mem.tail _ (List.Mem.head _))))))), (fun q h => absurd h List.not_mem_nil)⟩)⟩)⟩)⟩)⟩) (hk A _ Is8 JRLx_s8 JSEQ_s8 (by first | exact oq_f34933ba ws8_89 ws4_89 p1 b2.1 | omega) (by first | exact oq_86ef0b17 ws8_12 hps4.2 | omega))
theorem lc_3 (G : GX l s0 D tys a0 dT) (GR : RS0 s0) (SF : SF0 s0) (GT : TXs0 s0) {k : kx_T} (X : AX k 350 dT) (E : kL k = l ∧ kS0 k = s0 ∧ kD k = D ∧ kR k = room_1) {q1 L : Nat} {xs : Nat → Int32} (S : SX k q1 L xs) (hL : L ≤ 3072) (I : Bd s) (jR : RLx s) (jSEQ : SEQ s) (p1 : iI s 89 = 1) (p2 : iI s 12 ≤ 8) {i : Int} (hi : 0 ≤ i ∧ i + 6 ≤ (L : Int)) {ce sl : Nat} (hce : ce + 29 ≤ 601024) (hsl : sl + 222 ≤ 7293034) (hk : ∀ (A : Nat → Nat) (t : PS), Bd t → RLx t → SEQ t → iI t 89 = 1 → iI t 12 ≤ 8 → WS k 1901 [(0, .ref q1), (1, .ref (A 0)), (2, .ref (A 179)), (3, .ref (A 517)), (4, .int (Int32.ofInt i))] [] (Wd A dT t) (ce + 29) (sl + 222)) : WS k 361 [(0, .ref q1), (1, .ref (A 0)), (2, .ref (A 179)), (3, .ref (A 517)), (4, .int (Int32.ofInt i))] [] (Wd A dT s) ce sl := by
  have F : Fm [73] [] s s := fm_rf _ _ s
  have b1 := bi_12 I
  have b2 := bi_89 I
  refine z_aload_n X (x := A 0) rfl (List.Mem.tail _ (List.Mem.head _)) (z_callV X 0 (rm := rmN 138) (As := []) (st := []) rfl rfl (by decide) rfl (by rw [E.1, E.2.1, E.2.2.1]; exact cs_fault G I ) ⟨by rw [E.2.2.2]; exact (show 6 + 1 ≤ 2048 from oq_4d34cb53), by rw [E.2.2.2]; exact (show 8 + (1 + 11) + 100 ≤ 84000 from oq_a32dccc4), by rw [E.2.2.2]; exact (show ce + 0 ≤ 601024 by omega), by rw [E.2.2.2]; exact (show sl + 0 ≤ 7293034 by omega)⟩ (Nat.le_of_ble_eq_true rfl) (fun vv s3 hq => ?_) (fun ee s3 hq => ?_))
  rotate_left
  · obtain ⟨Is3, Fs3, e4, hv, hrs3, hps3⟩ := hq; cases hv
  obtain ⟨Is3, Fs3, e4, hv, hrs3, hps3⟩ := hq
  cases hv
  have Gs3 := fm_tq F Fs3 rfl rfl
  have JRLx_s3 : RLx s3 := RLx_fm Fs3 (by decide) jR
  have JSEQ_s3 : SEQ s3 := SEQ_fm Fs3 (by decide) jSEQ
  have ws3_12 : iI s3 12 = iI s 12 := fm_iq Fs3 rfl
  have ws3_89 : iI s3 89 = iI s 89 := fm_iq Fs3 rfl
  have wos3 : iO s3 = iO s := fm_o Fs3 (by decide)
  show WS k 365 [(0, .ref q1), (1, .ref (A 0)), (2, .ref (A 179)), (3, .ref (A 517)), (4, .int (Int32.ofInt i))] [.int (Int32.ofInt e4)] (Wd A dT s3) ce sl
  refine w_pop X.1 (ax_d X (show cdA 350 365 = some (.pop, 1, 0, 0, 0) from rfl)) rfl (z_aload_n X (x := A 179) rfl (List.Mem.tail _ (List.Mem.tail _ (List.Mem.head _))) (z_callV X 179 (rm := rmN 215) (As := []) (st := []) rfl rfl (by decide) rfl (by rw [E.1, E.2.1, E.2.2.1]; exact k_fault G Is3 ) ⟨by rw [E.2.2.2]; exact (show 6 + 1 ≤ 2048 from oq_4d34cb53), by rw [E.2.2.2]; exact (show 8 + (1 + 11) + 100 ≤ 84000 from oq_a32dccc4), by rw [E.2.2.2]; exact (show ce + 0 ≤ 601024 by omega), by rw [E.2.2.2]; exact (show sl + 0 ≤ 7293034 by omega)⟩ (Nat.le_of_ble_eq_true rfl) (fun vv s5 hq => ?_) (fun ee s5 hq => ?_)))
  rotate_left
  · obtain ⟨Is5, Fs5, e6, hv, hrs5, hps5⟩ := hq; cases hv
  obtain ⟨Is5, Fs5, e6, hv, hrs5, hps5⟩ := hq
  cases hv
  have Gs5 := fm_tq Gs3 Fs5 rfl rfl
  have JRLx_s5 : RLx s5 := RLx_fm Fs5 (by decide) JRLx_s3
  have JSEQ_s5 : SEQ s5 := SEQ_fm Fs5 (by decide) JSEQ_s3
  have ws5_12 : iI s5 12 = iI s3 12 := fm_iq Fs5 rfl
  have ws5_89 : iI s5 89 = iI s3 89 := fm_iq Fs5 rfl
  have wos5 : iO s5 = iO s3 := fm_o Fs5 (by decide)
  show WS k 370 [(0, .ref q1), (1, .ref (A 0)), (2, .ref (A 179)), (3, .ref (A 517)), (4, .int (Int32.ofInt i))] [.int (Int32.ofInt e6)] (Wd A dT s5) ce sl
  refine w_pop X.1 (ax_d X (show cdA 350 370 = some (.pop, 1, 0, 0, 0) from rfl)) rfl (z_goto X (t := 1901) rfl rfl (w_widen (ce' := ce + 29) (sl' := sl + 222) (by first | exact Nat.le_add_right _ _ | exact Nat.add_le_add_left (by decide) _ | omega) (by first | exact Nat.le_add_right _ _ | exact Nat.add_le_add_left (by decide) _ | omega) ?_))
  exact WS_lv (lv := [(0, .ref q1), (1, .ref (A 0)), (2, .ref (A 179)), (3, .ref (A 517)), (4, .int (Int32.ofInt i))]) (List.forall_mem_cons.mpr ⟨(List.Mem.head _), (List.forall_mem_cons.mpr ⟨(List.Mem.tail _ (List.Mem.head _)), (List.forall_mem_cons.mpr ⟨(List.Mem.tail _ (List.Mem.tail _ (List.Mem.head _))), (List.forall_mem_cons.mpr ⟨(List.Mem.tail _ (List.Mem.tail _ (List.Mem.tail _ (List.Mem.head _)))), (List.forall_mem_cons.mpr ⟨(List.Mem.tail _ (List.Mem.tail _ (List.Mem.tail _ (List.Mem.tail _ (List.Mem.head _))))), (fun q h => absurd h List.not_mem_nil)⟩)⟩)⟩)⟩)⟩) (hk A _ Is5 JRLx_s5 JSEQ_s5 (by first | exact oq_f34933ba ws5_89 ws3_89 p1 b2.1 | omega) (by first | exact oq_d7ce4408 ws5_12 ws3_12 p2 | omega))
theorem lc_4 (G : GX l s0 D tys a0 dT) (GR : RS0 s0) (SF : SF0 s0) (GT : TXs0 s0) {k : kx_T} (X : AX k 350 dT) (E : kL k = l ∧ kS0 k = s0 ∧ kD k = D ∧ kR k = room_1) {q1 L : Nat} {xs : Nat → Int32} (S : SX k q1 L xs) (hL : L ≤ 3072) (I : Bd s) (jR : RLx s) (jSEQ : SEQ s) (p1 : iI s 89 = 1) (p2 : iI s 12 ≤ 8) {i : Int} (hi : 0 ≤ i ∧ i + 6 ≤ (L : Int)) {ce sl : Nat} (hce : ce + 29 ≤ 601024) (hsl : sl + 222 ≤ 7293034) (hk : ∀ (A : Nat → Nat) (t : PS), Bd t → RLx t → SEQ t → iI t 89 = 1 → iI t 12 ≤ 8 → WS k 1901 [(0, .ref q1), (1, .ref (A 0)), (2, .ref (A 179)), (3, .ref (A 517)), (4, .int (Int32.ofInt i))] [] (Wd A dT t) (ce + 29) (sl + 222)) : WS k 374 [(0, .ref q1), (1, .ref (A 0)), (2, .ref (A 179)), (3, .ref (A 517)), (4, .int (Int32.ofInt i))] [] (Wd A dT s) ce sl := by
  have F : Fm [73] [1460] s s := fm_rf _ _ s
  have b1 := bi_12 I
  have b2 := bi_89 I
  refine z_aload_n X (x := A 0) rfl (List.Mem.tail _ (List.Mem.head _)) (z_aload_n X (x := q1) rfl (List.Mem.head _) (z_load X (x := i) rfl (List.Mem.tail _ (List.Mem.tail _ (List.Mem.tail _ (List.Mem.tail _ (List.Mem.head _))))) (z_const X rfl (z_add X rfl (z_sld X S hL rfl (show 0 ≤ (i + 1) ∧ (i + 1) < (L : Int) by first | exact sx_in hi (by decide) | omega) ?_)))))
  have sr3 : rng (sc xs (i + 1)) := sc_rng
  refine z_aload_n X (x := q1) rfl (List.Mem.head _) (z_load X (x := i) rfl (List.Mem.tail _ (List.Mem.tail _ (List.Mem.tail _ (List.Mem.tail _ (List.Mem.head _))))) (z_const X rfl (z_add X rfl (z_sld X S hL rfl (show 0 ≤ (i + 2) ∧ (i + 2) < (L : Int) by first | exact sx_in hi (by decide) | omega) ?_))))
  have sr4 : rng (sc xs (i + 2)) := sc_rng
  refine z_aload_n X (x := A 517) rfl (List.Mem.tail _ (List.Mem.tail _ (List.Mem.tail _ (List.Mem.head _)))) (z_callL X (rm := rmN 316) (As := [.ref (A 0), .int (Int32.ofInt (sc xs (i + 1))), .int (Int32.ofInt (sc xs (i + 2))), .ref (A 517)]) (st := []) rfl (by decide) rfl (by rw [E.1, E.2.1, E.2.2.1]; exact lw_way G I (by omega) (by omega)) ⟨by rw [E.2.2.2]; exact (show 8 + 1 ≤ 2048 by decide), by rw [E.2.2.2]; exact (show 8 + (5 + 11) + 144 ≤ 84000 by decide), by rw [E.2.2.2]; exact (show ce + 1 ≤ 601024 by first | exact rmo_1 hce (by decide) | exact rmo_2 hce (by decide) | omega), by rw [E.2.2.2]; exact (show sl + 6 ≤ 7293034 by first | exact rmo_1 hsl (by decide) | exact rmo_2 hsl (by decide) | omega)⟩ (Nat.le_of_ble_eq_true rfl) (fun vv A s5 hA2 hq => ?_) (fun ee A s5 hA2 hq => ?_))
  rotate_left
  · obtain ⟨Is5, Fs5, e6, hv, hrs5, hps5⟩ := hq; cases hv
  obtain ⟨Is5, Fs5, e6, hv, hrs5, hps5⟩ := hq
  cases hv
  rw [← hA2 0 (by decide)]
  rw [← hA2 179 (by decide)]
  rw [← hA2 517 (by decide)]
  have Gs5 := fm_tq F Fs5 rfl rfl
  have JRLx_s5 : RLx s5 := RLx_fm Fs5 (by decide) jR
  have JSEQ_s5 : SEQ s5 := SEQ_fm Fs5 (by decide) jSEQ
  have ws5_12 : iI s5 12 = iI s 12 := fm_iq Fs5 rfl
  have ws5_89 : iI s5 89 = iI s 89 := fm_iq Fs5 rfl
  show WS k 391 [(0, .ref q1), (1, .ref (A 0)), (2, .ref (A 179)), (3, .ref (A 517)), (4, .int (Int32.ofInt i))] [.int (Int32.ofInt e6)] (Wd A dT s5) (ce + 1) (sl + 6)
  refine z_store X (lv' := [(5, .int (Int32.ofInt e6)), (0, .ref q1), (1, .ref (A 0)), (2, .ref (A 179)), (3, .ref (A 517)), (4, .int (Int32.ofInt i))]) rfl (by decide) (fun _ h => h) (z_aload_n X (x := A 179) rfl (List.Mem.tail _ (List.Mem.tail _ (List.Mem.tail _ (List.Mem.head _)))) (z_aload_n X (x := q1) rfl (List.Mem.tail _ (List.Mem.head _)) (z_load X (x := i) rfl (List.Mem.tail _ (List.Mem.tail _ (List.Mem.tail _ (List.Mem.tail _ (List.Mem.tail _ (List.Mem.head _)))))) (z_const X rfl (z_add X rfl (z_sld X S hL rfl (show 0 ≤ (i + 1) ∧ (i + 1) < (L : Int) by first | exact sx_in hi (by decide) | omega) ?_))))))
  have sr7 : rng (sc xs (i + 1)) := sc_rng
  refine z_aload_n X (x := q1) rfl (List.Mem.tail _ (List.Mem.head _)) (z_load X (x := i) rfl (List.Mem.tail _ (List.Mem.tail _ (List.Mem.tail _ (List.Mem.tail _ (List.Mem.tail _ (List.Mem.head _)))))) (z_const X rfl (z_add X rfl (z_sld X S hL rfl (show 0 ≤ (i + 2) ∧ (i + 2) < (L : Int) by first | exact sx_in hi (by decide) | omega) ?_))))
  have sr8 : rng (sc xs (i + 2)) := sc_rng
  refine z_callV X 179 (rm := rmN 217) (As := [.int (Int32.ofInt (sc xs (i + 1))), .int (Int32.ofInt (sc xs (i + 2)))]) (st := []) rfl rfl (by decide) rfl (by rw [E.1, E.2.1, E.2.2.1]; exact k_way G Is5 (by first | exact ⟨sr7.1, sr7.2⟩ | omega) (by first | exact ⟨sr8.1, sr8.2⟩ | omega)) ⟨by rw [E.2.2.2]; exact (show 7 + 1 ≤ 2048 from oq_4e6106eb), by rw [E.2.2.2]; exact (show 8 + (3 + 11) + 122 ≤ 84000 from oq_38d194b9), by rw [E.2.2.2]; exact (show (ce + 1) + 0 ≤ 601024 by omega), by rw [E.2.2.2]; exact (show (sl + 6) + 0 ≤ 7293034 by omega)⟩ (Nat.le_of_ble_eq_true rfl) (fun vv s9 hq => ?_) (fun ee s9 hq => ?_)
  rotate_left
  · obtain ⟨Is9, Fs9, e10, hv, hrs9, hps9⟩ := hq; cases hv
  obtain ⟨Is9, Fs9, e10, hv, hrs9, hps9⟩ := hq
  cases hv
  have Gs9 := fm_tq Gs5 Fs9 rfl rfl
  have JRLx_s9 : RLx s9 := RLx_fm Fs9 (by decide) JRLx_s5
  have JSEQ_s9 : SEQ s9 := SEQ_fm Fs9 (by decide) JSEQ_s5
  have ws9_12 : iI s9 12 = iI s5 12 := fm_iq Fs9 rfl
  have ws9_89 : iI s9 89 = iI s5 89 := fm_iq Fs9 rfl
  have wos9 : iO s9 = iO s5 := fm_o Fs9 (by decide)
  show WS k 409 [(5, .int (Int32.ofInt e6)), (0, .ref q1), (1, .ref (A 0)), (2, .ref (A 179)), (3, .ref (A 517)), (4, .int (Int32.ofInt i))] [.int (Int32.ofInt e10)] (Wd A dT s9) (ce + 1) (sl + 6)
  refine z_store X (lv' := [(6, .int (Int32.ofInt e10)), (5, .int (Int32.ofInt e6)), (0, .ref q1), (1, .ref (A 0)), (2, .ref (A 179)), (3, .ref (A 517)), (4, .int (Int32.ofInt i))]) rfl (by decide) (fun _ h => h) (z_goto X (t := 1901) rfl rfl (w_widen (ce' := ce + 29) (sl' := sl + 222) (by first | exact Nat.le_add_right _ _ | exact Nat.add_le_add_left (by decide) _ | omega) (by first | exact Nat.le_add_right _ _ | exact Nat.add_le_add_left (by decide) _ | omega) ?_))
  exact WS_lv (lv := [(0, .ref q1), (1, .ref (A 0)), (2, .ref (A 179)), (3, .ref (A 517)), (4, .int (Int32.ofInt i))]) (List.forall_mem_cons.mpr ⟨(List.Mem.tail _ (List.Mem.tail _ (List.Mem.head _))), (List.forall_mem_cons.mpr ⟨(List.Mem.tail _ (List.Mem.tail _ (List.Mem.tail _ (List.Mem.head _)))), (List.forall_mem_cons.mpr ⟨(List.Mem.tail _ (List.Mem.tail _ (List.Mem.tail _ (List.Mem.tail _ (List.Mem.head _))))), (List.forall_mem_cons.mpr ⟨(List.Mem.tail _ (List.Mem.tail _ (List.Mem.tail _ (List.Mem.tail _ (List.Mem.tail _ (List.Mem.head _)))))), (List.forall_mem_cons.mpr ⟨(List.Mem.tail _ (List.Mem.tail _ (List.Mem.tail _ (List.Mem.tail _ (List.Mem.tail _ (List.Mem.tail _ (List.Mem.head _))))))), (fun q h => absurd h List.not_mem_nil)⟩)⟩)⟩)⟩)⟩) (hk A _ Is9 JRLx_s9 JSEQ_s9 (by first | exact oq_f34933ba ws9_89 ws5_89 p1 b2.1 | omega) (by first | exact oq_d7ce4408 ws9_12 ws5_12 p2 | omega))
theorem lc_5 (G : GX l s0 D tys a0 dT) (GR : RS0 s0) (SF : SF0 s0) (GT : TXs0 s0) {k : kx_T} (X : AX k 350 dT) (E : kL k = l ∧ kS0 k = s0 ∧ kD k = D ∧ kR k = room_1) {q1 L : Nat} {xs : Nat → Int32} (S : SX k q1 L xs) (hL : L ≤ 3072) (I : Bd s) (jR : RLx s) (jSEQ : SEQ s) (p1 : iI s 89 = 1) (p2 : iI s 12 ≤ 8) {i : Int} (hi : 0 ≤ i ∧ i + 6 ≤ (L : Int)) {ce sl : Nat} (hce : ce + 29 ≤ 601024) (hsl : sl + 222 ≤ 7293034) (hk : ∀ (A : Nat → Nat) (t : PS), Bd t → RLx t → SEQ t → iI t 89 = 1 → iI t 12 ≤ 8 → WS k 1901 [(0, .ref q1), (1, .ref (A 0)), (2, .ref (A 179)), (3, .ref (A 517)), (4, .int (Int32.ofInt i))] [] (Wd A dT t) (ce + 29) (sl + 222)) : WS k 414 [(0, .ref q1), (1, .ref (A 0)), (2, .ref (A 179)), (3, .ref (A 517)), (4, .int (Int32.ofInt i))] [] (Wd A dT s) ce sl := by
  have F : Fm [73] [8, 11, 12, 13, 14, 190, 191, 192, 193, 194, 195, 196, 197, 198, 199, 200, 201] s s := fm_rf _ _ s
  have b1 := bi_12 I
  have b2 := bi_89 I
  refine z_aload_n X (x := A 0) rfl (List.Mem.tail _ (List.Mem.head _)) (z_aload_n X (x := q1) rfl (List.Mem.head _) (z_load X (x := i) rfl (List.Mem.tail _ (List.Mem.tail _ (List.Mem.tail _ (List.Mem.tail _ (List.Mem.head _))))) (z_const X rfl (z_add X rfl (z_sld X S hL rfl (show 0 ≤ (i + 1) ∧ (i + 1) < (L : Int) by first | exact sx_in hi (by decide) | omega) ?_)))))
  have sr3 : rng (sc xs (i + 1)) := sc_rng
  refine z_aload_n X (x := q1) rfl (List.Mem.head _) (z_load X (x := i) rfl (List.Mem.tail _ (List.Mem.tail _ (List.Mem.tail _ (List.Mem.tail _ (List.Mem.head _))))) (z_const X rfl (z_add X rfl (z_sld X S hL rfl (show 0 ≤ (i + 2) ∧ (i + 2) < (L : Int) by first | exact sx_in hi (by decide) | omega) ?_))))
  have sr4 : rng (sc xs (i + 2)) := sc_rng
  refine z_aload_n X (x := q1) rfl (List.Mem.head _) (z_load X (x := i) rfl (List.Mem.tail _ (List.Mem.tail _ (List.Mem.tail _ (List.Mem.tail _ (List.Mem.head _))))) (z_const X rfl (z_add X rfl (z_sld X S hL rfl (show 0 ≤ (i + 3) ∧ (i + 3) < (L : Int) by first | exact sx_in hi (by decide) | omega) ?_))))
  have sr5 : rng (sc xs (i + 3)) := sc_rng
  refine z_aload_n X (x := q1) rfl (List.Mem.head _) (z_load X (x := i) rfl (List.Mem.tail _ (List.Mem.tail _ (List.Mem.tail _ (List.Mem.tail _ (List.Mem.head _))))) (z_const X rfl (z_add X rfl (z_sld X S hL rfl (show 0 ≤ (i + 4) ∧ (i + 4) < (L : Int) by first | exact sx_in hi (by decide) | omega) ?_))))
  have sr6 : rng (sc xs (i + 4)) := sc_rng
  refine z_callL X (rm := rmN 317) (As := [.ref (A 0), .int (Int32.ofInt (sc xs (i + 1))), .int (Int32.ofInt (sc xs (i + 2))), .int (Int32.ofInt (sc xs (i + 3))), .int (Int32.ofInt (sc xs (i + 4)))]) (st := []) rfl (by decide) rfl (by rw [E.1, E.2.1, E.2.2.1]; exact lw_flow G I (by omega) (by omega) (by omega) (by omega)) ⟨by rw [E.2.2.2]; exact (show 11 + 1 ≤ 2048 by decide), by rw [E.2.2.2]; exact (show 8 + (6 + 11) + 219 ≤ 84000 by decide), by rw [E.2.2.2]; exact (show ce + 5 ≤ 601024 by first | exact rmo_1 hce (by decide) | exact rmo_2 hce (by decide) | omega), by rw [E.2.2.2]; exact (show sl + 30 ≤ 7293034 by first | exact rmo_1 hsl (by decide) | exact rmo_2 hsl (by decide) | omega)⟩ (Nat.le_of_ble_eq_true rfl) (fun vv A s7 hA2 hq => ?_) (fun ee A s7 hA2 hq => ?_)
  rotate_left
  · obtain ⟨Is7, Fs7, e8, hv, hrs7, hps7⟩ := hq; cases hv
  obtain ⟨Is7, Fs7, e8, hv, hrs7, hps7⟩ := hq
  cases hv
  rw [← hA2 0 (by decide)]
  rw [← hA2 179 (by decide)]
  rw [← hA2 517 (by decide)]
  have Gs7 := fm_tq F Fs7 rfl rfl
  have JRLx_s7 : RLx s7 := RLx_fm Fs7 (by decide) jR
  have JSEQ_s7 : SEQ s7 := SEQ_fm Fs7 (by decide) jSEQ
  have ws7_12 : iI s7 12 = iI s 12 := fm_iq Fs7 rfl
  have ws7_89 : iI s7 89 = iI s 89 := fm_iq Fs7 rfl
  have wos7 : iO s7 = iO s := fm_o Fs7 (by decide)
  show WS k 442 [(0, .ref q1), (1, .ref (A 0)), (2, .ref (A 179)), (3, .ref (A 517)), (4, .int (Int32.ofInt i))] [.int (Int32.ofInt e8)] (Wd A dT s7) (ce + 5) (sl + 30)
  refine z_store X (lv' := [(5, .int (Int32.ofInt e8)), (0, .ref q1), (1, .ref (A 0)), (2, .ref (A 179)), (3, .ref (A 517)), (4, .int (Int32.ofInt i))]) rfl (by decide) (fun _ h => h) (z_aload_n X (x := A 179) rfl (List.Mem.tail _ (List.Mem.tail _ (List.Mem.tail _ (List.Mem.head _)))) (z_aload_n X (x := q1) rfl (List.Mem.tail _ (List.Mem.head _)) (z_load X (x := i) rfl (List.Mem.tail _ (List.Mem.tail _ (List.Mem.tail _ (List.Mem.tail _ (List.Mem.tail _ (List.Mem.head _)))))) (z_const X rfl (z_add X rfl (z_sld X S hL rfl (show 0 ≤ (i + 1) ∧ (i + 1) < (L : Int) by first | exact sx_in hi (by decide) | omega) ?_))))))
  have sr9 : rng (sc xs (i + 1)) := sc_rng
  refine z_aload_n X (x := q1) rfl (List.Mem.tail _ (List.Mem.head _)) (z_load X (x := i) rfl (List.Mem.tail _ (List.Mem.tail _ (List.Mem.tail _ (List.Mem.tail _ (List.Mem.tail _ (List.Mem.head _)))))) (z_const X rfl (z_add X rfl (z_sld X S hL rfl (show 0 ≤ (i + 2) ∧ (i + 2) < (L : Int) by first | exact sx_in hi (by decide) | omega) ?_))))
  have sr10 : rng (sc xs (i + 2)) := sc_rng
  refine z_aload_n X (x := q1) rfl (List.Mem.tail _ (List.Mem.head _)) (z_load X (x := i) rfl (List.Mem.tail _ (List.Mem.tail _ (List.Mem.tail _ (List.Mem.tail _ (List.Mem.tail _ (List.Mem.head _)))))) (z_const X rfl (z_add X rfl (z_sld X S hL rfl (show 0 ≤ (i + 3) ∧ (i + 3) < (L : Int) by first | exact sx_in hi (by decide) | omega) ?_))))
  have sr11 : rng (sc xs (i + 3)) := sc_rng
  refine z_aload_n X (x := q1) rfl (List.Mem.tail _ (List.Mem.head _)) (z_load X (x := i) rfl (List.Mem.tail _ (List.Mem.tail _ (List.Mem.tail _ (List.Mem.tail _ (List.Mem.tail _ (List.Mem.head _)))))) (z_const X rfl (z_add X rfl (z_sld X S hL rfl (show 0 ≤ (i + 4) ∧ (i + 4) < (L : Int) by first | exact sx_in hi (by decide) | omega) ?_))))
  have sr12 : rng (sc xs (i + 4)) := sc_rng
  refine z_callV X 179 (rm := rmN 218) (As := [.int (Int32.ofInt (sc xs (i + 1))), .int (Int32.ofInt (sc xs (i + 2))), .int (Int32.ofInt (sc xs (i + 3))), .int (Int32.ofInt (sc xs (i + 4)))]) (st := []) rfl rfl (by decide) rfl (by rw [E.1, E.2.1, E.2.2.1]; exact k_flow G Is7 (by first | exact ⟨sr9.1, sr9.2⟩ | omega) (by first | exact ⟨sr10.1, sr10.2⟩ | omega) (by first | exact ⟨sr11.1, sr11.2⟩ | omega) (by first | exact ⟨sr12.1, sr12.2⟩ | omega)) ⟨by rw [E.2.2.2]; exact (show 7 + 1 ≤ 2048 from oq_4e6106eb), by rw [E.2.2.2]; exact (show 8 + (6 + 11) + 122 ≤ 84000 from oq_380e4f97), by rw [E.2.2.2]; exact (show (ce + 5) + 0 ≤ 601024 by omega), by rw [E.2.2.2]; exact (show (sl + 30) + 0 ≤ 7293034 by omega)⟩ (Nat.le_of_ble_eq_true rfl) (fun vv s13 hq => ?_) (fun ee s13 hq => ?_)
  rotate_left
  · obtain ⟨Is13, Fs13, hv, hps13⟩ := hq; cases hv
  obtain ⟨Is13, Fs13, hv, hps13⟩ := hq
  cases hv
  have Gs13 := fm_tq Gs7 Fs13 rfl rfl
  have JRLx_s13 : RLx s13 := RLx_fm Fs13 (by decide) JRLx_s7
  have JSEQ_s13 : SEQ s13 := SEQ_fm Fs13 (by decide) JSEQ_s7
  have ws13_12 : iI s13 12 = iI s7 12 := fm_iq Fs13 rfl
  have ws13_89 : iI s13 89 = iI s7 89 := fm_iq Fs13 rfl
  have wos13 : iO s13 = iO s7 := fm_o Fs13 (by decide)
  show WS k 472 [(5, .int (Int32.ofInt e8)), (0, .ref q1), (1, .ref (A 0)), (2, .ref (A 179)), (3, .ref (A 517)), (4, .int (Int32.ofInt i))] [] (Wd A dT s13) (ce + 5) (sl + 30)
  refine z_goto X (t := 1901) rfl rfl (w_widen (ce' := ce + 29) (sl' := sl + 222) (by first | exact Nat.le_add_right _ _ | exact Nat.add_le_add_left (by decide) _ | omega) (by first | exact Nat.le_add_right _ _ | exact Nat.add_le_add_left (by decide) _ | omega) ?_)
  exact WS_lv (lv := [(0, .ref q1), (1, .ref (A 0)), (2, .ref (A 179)), (3, .ref (A 517)), (4, .int (Int32.ofInt i))]) (List.forall_mem_cons.mpr ⟨(List.Mem.tail _ (List.Mem.head _)), (List.forall_mem_cons.mpr ⟨(List.Mem.tail _ (List.Mem.tail _ (List.Mem.head _))), (List.forall_mem_cons.mpr ⟨(List.Mem.tail _ (List.Mem.tail _ (List.Mem.tail _ (List.Mem.head _)))), (List.forall_mem_cons.mpr ⟨(List.Mem.tail _ (List.Mem.tail _ (List.Mem.tail _ (List.Mem.tail _ (List.Mem.head _))))), (List.forall_mem_cons.mpr ⟨(List.Mem.tail _ (List.Mem.tail _ (List.Mem.tail _ (List.Mem.tail _ (List.Mem.tail _ (List.Mem.head _)))))), (fun q h => absurd h List.not_mem_nil)⟩)⟩)⟩)⟩)⟩) (hk A _ Is13 JRLx_s13 JSEQ_s13 (by first | exact oq_f34933ba ws13_89 ws7_89 p1 b2.1 | omega) (by first | exact oq_d7ce4408 ws13_12 ws7_12 p2 | omega))
theorem lc_6 (G : GX l s0 D tys a0 dT) (GR : RS0 s0) (SF : SF0 s0) (GT : TXs0 s0) {k : kx_T} (X : AX k 350 dT) (E : kL k = l ∧ kS0 k = s0 ∧ kD k = D ∧ kR k = room_1) {q1 L : Nat} {xs : Nat → Int32} (S : SX k q1 L xs) (hL : L ≤ 3072) (I : Bd s) (jR : RLx s) (jSEQ : SEQ s) (p1 : iI s 89 = 1) (p2 : iI s 12 ≤ 8) {i : Int} (hi : 0 ≤ i ∧ i + 6 ≤ (L : Int)) {ce sl : Nat} (hce : ce + 29 ≤ 601024) (hsl : sl + 222 ≤ 7293034) (hk : ∀ (A : Nat → Nat) (t : PS), Bd t → RLx t → SEQ t → iI t 89 = 1 → iI t 12 ≤ 8 → WS k 1901 [(0, .ref q1), (1, .ref (A 0)), (2, .ref (A 179)), (3, .ref (A 517)), (4, .int (Int32.ofInt i))] [] (Wd A dT t) (ce + 29) (sl + 222)) : WS k 475 [(0, .ref q1), (1, .ref (A 0)), (2, .ref (A 179)), (3, .ref (A 517)), (4, .int (Int32.ofInt i))] [] (Wd A dT s) ce sl := by
  have F : Fm [73] [9, 10, 11, 12, 13, 14, 163, 164] s s := fm_rf _ _ s
  have b1 := bi_12 I
  have b2 := bi_89 I
  refine z_aload_n X (x := A 0) rfl (List.Mem.tail _ (List.Mem.head _)) (z_aload_n X (x := q1) rfl (List.Mem.head _) (z_load X (x := i) rfl (List.Mem.tail _ (List.Mem.tail _ (List.Mem.tail _ (List.Mem.tail _ (List.Mem.head _))))) (z_const X rfl (z_add X rfl (z_sld X S hL rfl (show 0 ≤ (i + 1) ∧ (i + 1) < (L : Int) by first | exact sx_in hi (by decide) | omega) ?_)))))
  have sr3 : rng (sc xs (i + 1)) := sc_rng
  refine z_aload_n X (x := q1) rfl (List.Mem.head _) (z_load X (x := i) rfl (List.Mem.tail _ (List.Mem.tail _ (List.Mem.tail _ (List.Mem.tail _ (List.Mem.head _))))) (z_const X rfl (z_add X rfl (z_sld X S hL rfl (show 0 ≤ (i + 2) ∧ (i + 2) < (L : Int) by first | exact sx_in hi (by decide) | omega) ?_))))
  have sr4 : rng (sc xs (i + 2)) := sc_rng
  refine z_aload_n X (x := q1) rfl (List.Mem.head _) (z_load X (x := i) rfl (List.Mem.tail _ (List.Mem.tail _ (List.Mem.tail _ (List.Mem.tail _ (List.Mem.head _))))) (z_const X rfl (z_add X rfl (z_sld X S hL rfl (show 0 ≤ (i + 3) ∧ (i + 3) < (L : Int) by first | exact sx_in hi (by decide) | omega) ?_))))
  have sr5 : rng (sc xs (i + 3)) := sc_rng
  refine z_callL X (rm := rmN 318) (As := [.ref (A 0), .int (Int32.ofInt (sc xs (i + 1))), .int (Int32.ofInt (sc xs (i + 2))), .int (Int32.ofInt (sc xs (i + 3)))]) (st := []) rfl (by decide) rfl (by rw [E.1, E.2.1, E.2.2.1]; exact lw_span G I (by omega) (by omega) (by omega)) ⟨by rw [E.2.2.2]; exact (show 11 + 1 ≤ 2048 by decide), by rw [E.2.2.2]; exact (show 8 + (5 + 11) + 216 ≤ 84000 by decide), by rw [E.2.2.2]; exact (show ce + 3 ≤ 601024 by first | exact rmo_1 hce (by decide) | exact rmo_2 hce (by decide) | omega), by rw [E.2.2.2]; exact (show sl + 18 ≤ 7293034 by first | exact rmo_1 hsl (by decide) | exact rmo_2 hsl (by decide) | omega)⟩ (Nat.le_of_ble_eq_true rfl) (fun vv A s6 hA2 hq => ?_) (fun ee A s6 hA2 hq => ?_)
  rotate_left
  · obtain ⟨Is6, Fs6, e7, hv, hrs6, hps6⟩ := hq; cases hv
  obtain ⟨Is6, Fs6, e7, hv, hrs6, hps6⟩ := hq
  cases hv
  rw [← hA2 0 (by decide)]
  rw [← hA2 179 (by decide)]
  rw [← hA2 517 (by decide)]
  have Gs6 := fm_tq F Fs6 rfl rfl
  have JRLx_s6 : RLx s6 := RLx_fm Fs6 (by decide) jR
  have JSEQ_s6 : SEQ s6 := SEQ_fm Fs6 (by decide) jSEQ
  have ws6_12 : iI s6 12 = iI s 12 := fm_iq Fs6 rfl
  have ws6_89 : iI s6 89 = iI s 89 := fm_iq Fs6 rfl
  have wos6 : iO s6 = iO s := fm_o Fs6 (by decide)
  show WS k 497 [(0, .ref q1), (1, .ref (A 0)), (2, .ref (A 179)), (3, .ref (A 517)), (4, .int (Int32.ofInt i))] [.int (Int32.ofInt e7)] (Wd A dT s6) (ce + 3) (sl + 18)
  refine z_store X (lv' := [(5, .int (Int32.ofInt e7)), (0, .ref q1), (1, .ref (A 0)), (2, .ref (A 179)), (3, .ref (A 517)), (4, .int (Int32.ofInt i))]) rfl (by decide) (fun _ h => h) (z_aload_n X (x := A 179) rfl (List.Mem.tail _ (List.Mem.tail _ (List.Mem.tail _ (List.Mem.head _)))) (z_aload_n X (x := q1) rfl (List.Mem.tail _ (List.Mem.head _)) (z_load X (x := i) rfl (List.Mem.tail _ (List.Mem.tail _ (List.Mem.tail _ (List.Mem.tail _ (List.Mem.tail _ (List.Mem.head _)))))) (z_const X rfl (z_add X rfl (z_sld X S hL rfl (show 0 ≤ (i + 1) ∧ (i + 1) < (L : Int) by first | exact sx_in hi (by decide) | omega) ?_))))))
  have sr8 : rng (sc xs (i + 1)) := sc_rng
  refine z_aload_n X (x := q1) rfl (List.Mem.tail _ (List.Mem.head _)) (z_load X (x := i) rfl (List.Mem.tail _ (List.Mem.tail _ (List.Mem.tail _ (List.Mem.tail _ (List.Mem.tail _ (List.Mem.head _)))))) (z_const X rfl (z_add X rfl (z_sld X S hL rfl (show 0 ≤ (i + 2) ∧ (i + 2) < (L : Int) by first | exact sx_in hi (by decide) | omega) ?_))))
  have sr9 : rng (sc xs (i + 2)) := sc_rng
  refine z_aload_n X (x := q1) rfl (List.Mem.tail _ (List.Mem.head _)) (z_load X (x := i) rfl (List.Mem.tail _ (List.Mem.tail _ (List.Mem.tail _ (List.Mem.tail _ (List.Mem.tail _ (List.Mem.head _)))))) (z_const X rfl (z_add X rfl (z_sld X S hL rfl (show 0 ≤ (i + 3) ∧ (i + 3) < (L : Int) by first | exact sx_in hi (by decide) | omega) ?_))))
  have sr10 : rng (sc xs (i + 3)) := sc_rng
  refine z_callV X 179 (rm := rmN 219) (As := [.int (Int32.ofInt (sc xs (i + 1))), .int (Int32.ofInt (sc xs (i + 2))), .int (Int32.ofInt (sc xs (i + 3)))]) (st := []) rfl rfl (by decide) rfl (by rw [E.1, E.2.1, E.2.2.1]; exact k_span G Is6 (by first | exact ⟨sr8.1, sr8.2⟩ | omega) (by first | exact ⟨sr9.1, sr9.2⟩ | omega) (by first | exact ⟨sr10.1, sr10.2⟩ | omega)) ⟨by rw [E.2.2.2]; exact (show 7 + 1 ≤ 2048 from oq_4e6106eb), by rw [E.2.2.2]; exact (show 8 + (4 + 11) + 122 ≤ 84000 from oq_ebbf79c1), by rw [E.2.2.2]; exact (show (ce + 3) + 0 ≤ 601024 by omega), by rw [E.2.2.2]; exact (show (sl + 18) + 0 ≤ 7293034 by omega)⟩ (Nat.le_of_ble_eq_true rfl) (fun vv s11 hq => ?_) (fun ee s11 hq => ?_)
  rotate_left
  · obtain ⟨Is11, Fs11, hv, hps11⟩ := hq; cases hv
  obtain ⟨Is11, Fs11, hv, hps11⟩ := hq
  cases hv
  have Gs11 := fm_tq Gs6 Fs11 rfl rfl
  have JRLx_s11 : RLx s11 := RLx_fm Fs11 (by decide) JRLx_s6
  have JSEQ_s11 : SEQ s11 := SEQ_fm Fs11 (by decide) JSEQ_s6
  have ws11_12 : iI s11 12 = iI s6 12 := fm_iq Fs11 rfl
  have ws11_89 : iI s11 89 = iI s6 89 := fm_iq Fs11 rfl
  have wos11 : iO s11 = iO s6 := fm_o Fs11 (by decide)
  show WS k 521 [(5, .int (Int32.ofInt e7)), (0, .ref q1), (1, .ref (A 0)), (2, .ref (A 179)), (3, .ref (A 517)), (4, .int (Int32.ofInt i))] [] (Wd A dT s11) (ce + 3) (sl + 18)
  refine z_goto X (t := 1901) rfl rfl (w_widen (ce' := ce + 29) (sl' := sl + 222) (by first | exact Nat.le_add_right _ _ | exact Nat.add_le_add_left (by decide) _ | omega) (by first | exact Nat.le_add_right _ _ | exact Nat.add_le_add_left (by decide) _ | omega) ?_)
  exact WS_lv (lv := [(0, .ref q1), (1, .ref (A 0)), (2, .ref (A 179)), (3, .ref (A 517)), (4, .int (Int32.ofInt i))]) (List.forall_mem_cons.mpr ⟨(List.Mem.tail _ (List.Mem.head _)), (List.forall_mem_cons.mpr ⟨(List.Mem.tail _ (List.Mem.tail _ (List.Mem.head _))), (List.forall_mem_cons.mpr ⟨(List.Mem.tail _ (List.Mem.tail _ (List.Mem.tail _ (List.Mem.head _)))), (List.forall_mem_cons.mpr ⟨(List.Mem.tail _ (List.Mem.tail _ (List.Mem.tail _ (List.Mem.tail _ (List.Mem.head _))))), (List.forall_mem_cons.mpr ⟨(List.Mem.tail _ (List.Mem.tail _ (List.Mem.tail _ (List.Mem.tail _ (List.Mem.tail _ (List.Mem.head _)))))), (fun q h => absurd h List.not_mem_nil)⟩)⟩)⟩)⟩)⟩) (hk A _ Is11 JRLx_s11 JSEQ_s11 (by first | exact oq_f34933ba ws11_89 ws6_89 p1 b2.1 | omega) (by first | exact oq_d7ce4408 ws11_12 ws6_12 p2 | omega))
theorem lc_7 (G : GX l s0 D tys a0 dT) (GR : RS0 s0) (SF : SF0 s0) (GT : TXs0 s0) {k : kx_T} (X : AX k 350 dT) (E : kL k = l ∧ kS0 k = s0 ∧ kD k = D ∧ kR k = room_1) {q1 L : Nat} {xs : Nat → Int32} (S : SX k q1 L xs) (hL : L ≤ 3072) (I : Bd s) (jR : RLx s) (jSEQ : SEQ s) (p1 : iI s 89 = 1) (p2 : iI s 12 ≤ 8) {i : Int} (hi : 0 ≤ i ∧ i + 6 ≤ (L : Int)) {ce sl : Nat} (hce : ce + 29 ≤ 601024) (hsl : sl + 222 ≤ 7293034) (hk : ∀ (A : Nat → Nat) (t : PS), Bd t → RLx t → SEQ t → iI t 89 = 1 → iI t 12 ≤ 8 → WS k 1901 [(0, .ref q1), (1, .ref (A 0)), (2, .ref (A 179)), (3, .ref (A 517)), (4, .int (Int32.ofInt i))] [] (Wd A dT t) (ce + 29) (sl + 222)) : WS k 524 [(0, .ref q1), (1, .ref (A 0)), (2, .ref (A 179)), (3, .ref (A 517)), (4, .int (Int32.ofInt i))] [] (Wd A dT s) ce sl := by
  have F : Fm [73] [1460] s s := fm_rf _ _ s
  have b1 := bi_12 I
  have b2 := bi_89 I
  refine z_aload_n X (x := A 0) rfl (List.Mem.tail _ (List.Mem.head _)) (z_aload_n X (x := q1) rfl (List.Mem.head _) (z_load X (x := i) rfl (List.Mem.tail _ (List.Mem.tail _ (List.Mem.tail _ (List.Mem.tail _ (List.Mem.head _))))) (z_const X rfl (z_add X rfl (z_sld X S hL rfl (show 0 ≤ (i + 1) ∧ (i + 1) < (L : Int) by first | exact sx_in hi (by decide) | omega) ?_)))))
  have sr3 : rng (sc xs (i + 1)) := sc_rng
  refine z_aload_n X (x := q1) rfl (List.Mem.head _) (z_load X (x := i) rfl (List.Mem.tail _ (List.Mem.tail _ (List.Mem.tail _ (List.Mem.tail _ (List.Mem.head _))))) (z_const X rfl (z_add X rfl (z_sld X S hL rfl (show 0 ≤ (i + 2) ∧ (i + 2) < (L : Int) by first | exact sx_in hi (by decide) | omega) ?_))))
  have sr4 : rng (sc xs (i + 2)) := sc_rng
  refine z_aload_n X (x := A 517) rfl (List.Mem.tail _ (List.Mem.tail _ (List.Mem.tail _ (List.Mem.head _)))) (z_callL X (rm := rmN 319) (As := [.ref (A 0), .int (Int32.ofInt (sc xs (i + 1))), .int (Int32.ofInt (sc xs (i + 2))), .ref (A 517)]) (st := []) rfl (by decide) rfl (by rw [E.1, E.2.1, E.2.2.1]; exact lw_most G I (by omega) (by omega)) ⟨by rw [E.2.2.2]; exact (show 9 + 1 ≤ 2048 by decide), by rw [E.2.2.2]; exact (show 8 + (5 + 11) + 166 ≤ 84000 by decide), by rw [E.2.2.2]; exact (show ce + 2 ≤ 601024 by first | exact rmo_1 hce (by decide) | exact rmo_2 hce (by decide) | omega), by rw [E.2.2.2]; exact (show sl + 12 ≤ 7293034 by first | exact rmo_1 hsl (by decide) | exact rmo_2 hsl (by decide) | omega)⟩ (Nat.le_of_ble_eq_true rfl) (fun vv A s5 hA2 hq => ?_) (fun ee A s5 hA2 hq => ?_))
  rotate_left
  · obtain ⟨Is5, Fs5, e6, hv, hrs5, hps5⟩ := hq; cases hv
  obtain ⟨Is5, Fs5, e6, hv, hrs5, hps5⟩ := hq
  cases hv
  rw [← hA2 0 (by decide)]
  rw [← hA2 179 (by decide)]
  rw [← hA2 517 (by decide)]
  have Gs5 := fm_tq F Fs5 rfl rfl
  have JRLx_s5 : RLx s5 := RLx_fm Fs5 (by decide) jR
  have JSEQ_s5 : SEQ s5 := SEQ_fm Fs5 (by decide) jSEQ
  have ws5_12 : iI s5 12 = iI s 12 := fm_iq Fs5 rfl
  have ws5_89 : iI s5 89 = iI s 89 := fm_iq Fs5 rfl
  show WS k 541 [(0, .ref q1), (1, .ref (A 0)), (2, .ref (A 179)), (3, .ref (A 517)), (4, .int (Int32.ofInt i))] [.int (Int32.ofInt e6)] (Wd A dT s5) (ce + 2) (sl + 12)
  refine z_store X (lv' := [(5, .int (Int32.ofInt e6)), (0, .ref q1), (1, .ref (A 0)), (2, .ref (A 179)), (3, .ref (A 517)), (4, .int (Int32.ofInt i))]) rfl (by decide) (fun _ h => h) (z_aload_n X (x := A 179) rfl (List.Mem.tail _ (List.Mem.tail _ (List.Mem.tail _ (List.Mem.head _)))) (z_aload_n X (x := q1) rfl (List.Mem.tail _ (List.Mem.head _)) (z_load X (x := i) rfl (List.Mem.tail _ (List.Mem.tail _ (List.Mem.tail _ (List.Mem.tail _ (List.Mem.tail _ (List.Mem.head _)))))) (z_const X rfl (z_add X rfl (z_sld X S hL rfl (show 0 ≤ (i + 1) ∧ (i + 1) < (L : Int) by first | exact sx_in hi (by decide) | omega) ?_))))))
  have sr7 : rng (sc xs (i + 1)) := sc_rng
  refine z_aload_n X (x := q1) rfl (List.Mem.tail _ (List.Mem.head _)) (z_load X (x := i) rfl (List.Mem.tail _ (List.Mem.tail _ (List.Mem.tail _ (List.Mem.tail _ (List.Mem.tail _ (List.Mem.head _)))))) (z_const X rfl (z_add X rfl (z_sld X S hL rfl (show 0 ≤ (i + 2) ∧ (i + 2) < (L : Int) by first | exact sx_in hi (by decide) | omega) ?_))))
  have sr8 : rng (sc xs (i + 2)) := sc_rng
  refine z_callV X 179 (rm := rmN 221) (As := [.int (Int32.ofInt (sc xs (i + 1))), .int (Int32.ofInt (sc xs (i + 2)))]) (st := []) rfl rfl (by decide) rfl (by rw [E.1, E.2.1, E.2.2.1]; exact k_most G Is5 (by first | exact ⟨sr7.1, sr7.2⟩ | omega) (by first | exact ⟨sr8.1, sr8.2⟩ | omega)) ⟨by rw [E.2.2.2]; exact (show 8 + 1 ≤ 2048 from oq_5bf2829b), by rw [E.2.2.2]; exact (show 8 + (3 + 11) + 146 ≤ 84000 from oq_263907be), by rw [E.2.2.2]; exact (show (ce + 2) + 0 ≤ 601024 by omega), by rw [E.2.2.2]; exact (show (sl + 12) + 0 ≤ 7293034 by omega)⟩ (Nat.le_of_ble_eq_true rfl) (fun vv s9 hq => ?_) (fun ee s9 hq => ?_)
  rotate_left
  · obtain ⟨Is9, Fs9, e10, hv, hrs9, hps9⟩ := hq; cases hv
  obtain ⟨Is9, Fs9, e10, hv, hrs9, hps9⟩ := hq
  cases hv
  have Gs9 := fm_tq Gs5 Fs9 rfl rfl
  have JRLx_s9 : RLx s9 := RLx_fm Fs9 (by decide) JRLx_s5
  have JSEQ_s9 : SEQ s9 := SEQ_fm Fs9 (by decide) JSEQ_s5
  have ws9_12 : iI s9 12 = iI s5 12 := fm_iq Fs9 rfl
  have ws9_89 : iI s9 89 = iI s5 89 := fm_iq Fs9 rfl
  have wos9 : iO s9 = iO s5 := fm_o Fs9 (by decide)
  show WS k 559 [(5, .int (Int32.ofInt e6)), (0, .ref q1), (1, .ref (A 0)), (2, .ref (A 179)), (3, .ref (A 517)), (4, .int (Int32.ofInt i))] [.int (Int32.ofInt e10)] (Wd A dT s9) (ce + 2) (sl + 12)
  refine z_store X (lv' := [(6, .int (Int32.ofInt e10)), (5, .int (Int32.ofInt e6)), (0, .ref q1), (1, .ref (A 0)), (2, .ref (A 179)), (3, .ref (A 517)), (4, .int (Int32.ofInt i))]) rfl (by decide) (fun _ h => h) (z_goto X (t := 1901) rfl rfl (w_widen (ce' := ce + 29) (sl' := sl + 222) (by first | exact Nat.le_add_right _ _ | exact Nat.add_le_add_left (by decide) _ | omega) (by first | exact Nat.le_add_right _ _ | exact Nat.add_le_add_left (by decide) _ | omega) ?_))
  exact WS_lv (lv := [(0, .ref q1), (1, .ref (A 0)), (2, .ref (A 179)), (3, .ref (A 517)), (4, .int (Int32.ofInt i))]) (List.forall_mem_cons.mpr ⟨(List.Mem.tail _ (List.Mem.tail _ (List.Mem.head _))), (List.forall_mem_cons.mpr ⟨(List.Mem.tail _ (List.Mem.tail _ (List.Mem.tail _ (List.Mem.head _)))), (List.forall_mem_cons.mpr ⟨(List.Mem.tail _ (List.Mem.tail _ (List.Mem.tail _ (List.Mem.tail _ (List.Mem.head _))))), (List.forall_mem_cons.mpr ⟨(List.Mem.tail _ (List.Mem.tail _ (List.Mem.tail _ (List.Mem.tail _ (List.Mem.tail _ (List.Mem.head _)))))), (List.forall_mem_cons.mpr ⟨(List.Mem.tail _ (List.Mem.tail _ (List.Mem.tail _ (List.Mem.tail _ (List.Mem.tail _ (List.Mem.tail _ (List.Mem.head _))))))), (fun q h => absurd h List.not_mem_nil)⟩)⟩)⟩)⟩)⟩) (hk A _ Is9 JRLx_s9 JSEQ_s9 (by first | exact oq_f34933ba ws9_89 ws5_89 p1 b2.1 | omega) (by first | exact oq_d7ce4408 ws9_12 ws5_12 p2 | omega))
theorem lc_8 (G : GX l s0 D tys a0 dT) (GR : RS0 s0) (SF : SF0 s0) (GT : TXs0 s0) {k : kx_T} (X : AX k 350 dT) (E : kL k = l ∧ kS0 k = s0 ∧ kD k = D ∧ kR k = room_1) {q1 L : Nat} {xs : Nat → Int32} (S : SX k q1 L xs) (hL : L ≤ 3072) (I : Bd s) (jR : RLx s) (jSEQ : SEQ s) (p1 : iI s 89 = 1) (p2 : iI s 12 ≤ 8) {i : Int} (hi : 0 ≤ i ∧ i + 6 ≤ (L : Int)) {ce sl : Nat} (hce : ce + 29 ≤ 601024) (hsl : sl + 222 ≤ 7293034) (hk : ∀ (A : Nat → Nat) (t : PS), Bd t → RLx t → SEQ t → iI t 89 = 1 → iI t 12 ≤ 8 → WS k 1901 [(0, .ref q1), (1, .ref (A 0)), (2, .ref (A 179)), (3, .ref (A 517)), (4, .int (Int32.ofInt i))] [] (Wd A dT t) (ce + 29) (sl + 222)) : WS k 564 [(0, .ref q1), (1, .ref (A 0)), (2, .ref (A 179)), (3, .ref (A 517)), (4, .int (Int32.ofInt i))] [] (Wd A dT s) ce sl := by
  have F : Fm [73] [21, 1022, 1023, 1460, 228] s s := fm_rf _ _ s
  have b1 := bi_12 I
  have b2 := bi_89 I
  refine z_aload_n X (x := A 0) rfl (List.Mem.tail _ (List.Mem.head _)) (z_aload_n X (x := q1) rfl (List.Mem.head _) (z_load X (x := i) rfl (List.Mem.tail _ (List.Mem.tail _ (List.Mem.tail _ (List.Mem.tail _ (List.Mem.head _))))) (z_const X rfl (z_add X rfl (z_sld X S hL rfl (show 0 ≤ (i + 1) ∧ (i + 1) < (L : Int) by first | exact sx_in hi (by decide) | omega) ?_)))))
  have sr3 : rng (sc xs (i + 1)) := sc_rng
  refine z_aload_n X (x := q1) rfl (List.Mem.head _) (z_load X (x := i) rfl (List.Mem.tail _ (List.Mem.tail _ (List.Mem.tail _ (List.Mem.tail _ (List.Mem.head _))))) (z_const X rfl (z_add X rfl (z_sld X S hL rfl (show 0 ≤ (i + 2) ∧ (i + 2) < (L : Int) by first | exact sx_in hi (by decide) | omega) ?_))))
  have sr4 : rng (sc xs (i + 2)) := sc_rng
  refine z_aload_n X (x := A 517) rfl (List.Mem.tail _ (List.Mem.tail _ (List.Mem.tail _ (List.Mem.head _)))) (z_callL X (rm := rmN 320) (As := [.ref (A 0), .int (Int32.ofInt (sc xs (i + 1))), .int (Int32.ofInt (sc xs (i + 2))), .ref (A 517)]) (st := []) rfl (by decide) rfl (by rw [E.1, E.2.1, E.2.2.1]; exact lw_assign G I (by omega) (by omega)) ⟨by rw [E.2.2.2]; exact (show 8 + 1 ≤ 2048 by decide), by rw [E.2.2.2]; exact (show 8 + (5 + 11) + 148 ≤ 84000 by decide), by rw [E.2.2.2]; exact (show ce + 2 ≤ 601024 by first | exact rmo_1 hce (by decide) | exact rmo_2 hce (by decide) | omega), by rw [E.2.2.2]; exact (show sl + 12 ≤ 7293034 by first | exact rmo_1 hsl (by decide) | exact rmo_2 hsl (by decide) | omega)⟩ (Nat.le_of_ble_eq_true rfl) (fun vv A s5 hA2 hq => ?_) (fun ee A s5 hA2 hq => ?_))
  rotate_left
  · obtain ⟨Is5, Fs5, e6, hv, hrs5, hps5⟩ := hq; cases hv
  obtain ⟨Is5, Fs5, e6, hv, hrs5, hps5⟩ := hq
  cases hv
  rw [← hA2 0 (by decide)]
  rw [← hA2 179 (by decide)]
  rw [← hA2 517 (by decide)]
  have Gs5 := fm_tq F Fs5 rfl rfl
  have JRLx_s5 : RLx s5 := RLx_fm Fs5 (by decide) jR
  have JSEQ_s5 : SEQ s5 := SEQ_fm Fs5 (by decide) jSEQ
  have ws5_12 : iI s5 12 = iI s 12 := fm_iq Fs5 rfl
  have ws5_89 : iI s5 89 = iI s 89 := fm_iq Fs5 rfl
  show WS k 581 [(0, .ref q1), (1, .ref (A 0)), (2, .ref (A 179)), (3, .ref (A 517)), (4, .int (Int32.ofInt i))] [.int (Int32.ofInt e6)] (Wd A dT s5) (ce + 2) (sl + 12)
  refine z_store X (lv' := [(5, .int (Int32.ofInt e6)), (0, .ref q1), (1, .ref (A 0)), (2, .ref (A 179)), (3, .ref (A 517)), (4, .int (Int32.ofInt i))]) rfl (by decide) (fun _ h => h) (z_aload_n X (x := A 179) rfl (List.Mem.tail _ (List.Mem.tail _ (List.Mem.tail _ (List.Mem.head _)))) (z_aload_n X (x := q1) rfl (List.Mem.tail _ (List.Mem.head _)) (z_load X (x := i) rfl (List.Mem.tail _ (List.Mem.tail _ (List.Mem.tail _ (List.Mem.tail _ (List.Mem.tail _ (List.Mem.head _)))))) (z_const X rfl (z_add X rfl (z_sld X S hL rfl (show 0 ≤ (i + 1) ∧ (i + 1) < (L : Int) by first | exact sx_in hi (by decide) | omega) ?_))))))
  have sr7 : rng (sc xs (i + 1)) := sc_rng
  refine z_aload_n X (x := q1) rfl (List.Mem.tail _ (List.Mem.head _)) (z_load X (x := i) rfl (List.Mem.tail _ (List.Mem.tail _ (List.Mem.tail _ (List.Mem.tail _ (List.Mem.tail _ (List.Mem.head _)))))) (z_const X rfl (z_add X rfl (z_sld X S hL rfl (show 0 ≤ (i + 2) ∧ (i + 2) < (L : Int) by first | exact sx_in hi (by decide) | omega) ?_))))
  have sr8 : rng (sc xs (i + 2)) := sc_rng
  refine z_callV X 179 (rm := rmN 234) (As := [.int (Int32.ofInt (sc xs (i + 1))), .int (Int32.ofInt (sc xs (i + 2)))]) (st := []) rfl rfl (by decide) rfl (by rw [E.1, E.2.1, E.2.2.1]; exact k_assign G Is5 (by first | exact ⟨sr7.1, sr7.2⟩ | omega) (by first | exact ⟨sr8.1, sr8.2⟩ | omega)) ⟨by rw [E.2.2.2]; exact (show 7 + 1 ≤ 2048 from oq_4e6106eb), by rw [E.2.2.2]; exact (show 8 + (4 + 11) + 122 ≤ 84000 from oq_ebbf79c1), by rw [E.2.2.2]; exact (show (ce + 2) + 0 ≤ 601024 by omega), by rw [E.2.2.2]; exact (show (sl + 12) + 0 ≤ 7293034 by omega)⟩ (Nat.le_of_ble_eq_true rfl) (fun vv s9 hq => ?_) (fun ee s9 hq => ?_)
  rotate_left
  · obtain ⟨Is9, Fs9, e10, hv, hrs9, hps9⟩ := hq; cases hv
  obtain ⟨Is9, Fs9, e10, hv, hrs9, hps9⟩ := hq
  cases hv
  have Gs9 := fm_tq Gs5 Fs9 rfl rfl
  have JRLx_s9 : RLx s9 := RLx_fm Fs9 (by decide) JRLx_s5
  have JSEQ_s9 : SEQ s9 := SEQ_fm Fs9 (by decide) JSEQ_s5
  have ws9_12 : iI s9 12 = iI s5 12 := fm_iq Fs9 rfl
  have ws9_89 : iI s9 89 = iI s5 89 := fm_iq Fs9 rfl
  have wos9 : iO s9 = iO s5 := fm_o Fs9 (by decide)
  show WS k 599 [(5, .int (Int32.ofInt e6)), (0, .ref q1), (1, .ref (A 0)), (2, .ref (A 179)), (3, .ref (A 517)), (4, .int (Int32.ofInt i))] [.int (Int32.ofInt e10)] (Wd A dT s9) (ce + 2) (sl + 12)
  refine z_store X (lv' := [(6, .int (Int32.ofInt e10)), (5, .int (Int32.ofInt e6)), (0, .ref q1), (1, .ref (A 0)), (2, .ref (A 179)), (3, .ref (A 517)), (4, .int (Int32.ofInt i))]) rfl (by decide) (fun _ h => h) (z_goto X (t := 1901) rfl rfl (w_widen (ce' := ce + 29) (sl' := sl + 222) (by first | exact Nat.le_add_right _ _ | exact Nat.add_le_add_left (by decide) _ | omega) (by first | exact Nat.le_add_right _ _ | exact Nat.add_le_add_left (by decide) _ | omega) ?_))
  exact WS_lv (lv := [(0, .ref q1), (1, .ref (A 0)), (2, .ref (A 179)), (3, .ref (A 517)), (4, .int (Int32.ofInt i))]) (List.forall_mem_cons.mpr ⟨(List.Mem.tail _ (List.Mem.tail _ (List.Mem.head _))), (List.forall_mem_cons.mpr ⟨(List.Mem.tail _ (List.Mem.tail _ (List.Mem.tail _ (List.Mem.head _)))), (List.forall_mem_cons.mpr ⟨(List.Mem.tail _ (List.Mem.tail _ (List.Mem.tail _ (List.Mem.tail _ (List.Mem.head _))))), (List.forall_mem_cons.mpr ⟨(List.Mem.tail _ (List.Mem.tail _ (List.Mem.tail _ (List.Mem.tail _ (List.Mem.tail _ (List.Mem.head _)))))), (List.forall_mem_cons.mpr ⟨(List.Mem.tail _ (List.Mem.tail _ (List.Mem.tail _ (List.Mem.tail _ (List.Mem.tail _ (List.Mem.tail _ (List.Mem.head _))))))), (fun q h => absurd h List.not_mem_nil)⟩)⟩)⟩)⟩)⟩) (hk A _ Is9 JRLx_s9 JSEQ_s9 (by first | exact oq_f34933ba ws9_89 ws5_89 p1 b2.1 | omega) (by first | exact oq_d7ce4408 ws9_12 ws5_12 p2 | omega))
theorem lc_9 (G : GX l s0 D tys a0 dT) (GR : RS0 s0) (SF : SF0 s0) (GT : TXs0 s0) {k : kx_T} (X : AX k 350 dT) (E : kL k = l ∧ kS0 k = s0 ∧ kD k = D ∧ kR k = room_1) {q1 L : Nat} {xs : Nat → Int32} (S : SX k q1 L xs) (hL : L ≤ 3072) (I : Bd s) (jR : RLx s) (jSEQ : SEQ s) (p1 : iI s 89 = 1) (p2 : iI s 12 ≤ 8) {i : Int} (hi : 0 ≤ i ∧ i + 6 ≤ (L : Int)) {ce sl : Nat} (hce : ce + 29 ≤ 601024) (hsl : sl + 222 ≤ 7293034) (hk : ∀ (A : Nat → Nat) (t : PS), Bd t → RLx t → SEQ t → iI t 89 = 1 → iI t 12 ≤ 8 → WS k 1901 [(0, .ref q1), (1, .ref (A 0)), (2, .ref (A 179)), (3, .ref (A 517)), (4, .int (Int32.ofInt i))] [] (Wd A dT t) (ce + 29) (sl + 222)) : WS k 604 [(0, .ref q1), (1, .ref (A 0)), (2, .ref (A 179)), (3, .ref (A 517)), (4, .int (Int32.ofInt i))] [] (Wd A dT s) ce sl := by
  have F : Fm [73] [21, 1022, 1023, 1460, 228] s s := fm_rf _ _ s
  have b1 := bi_12 I
  have b2 := bi_89 I
  refine z_aload_n X (x := A 0) rfl (List.Mem.tail _ (List.Mem.head _)) (z_aload_n X (x := q1) rfl (List.Mem.head _) (z_load X (x := i) rfl (List.Mem.tail _ (List.Mem.tail _ (List.Mem.tail _ (List.Mem.tail _ (List.Mem.head _))))) (z_const X rfl (z_add X rfl (z_sld X S hL rfl (show 0 ≤ (i + 1) ∧ (i + 1) < (L : Int) by first | exact sx_in hi (by decide) | omega) ?_)))))
  have sr3 : rng (sc xs (i + 1)) := sc_rng
  refine z_aload_n X (x := q1) rfl (List.Mem.head _) (z_load X (x := i) rfl (List.Mem.tail _ (List.Mem.tail _ (List.Mem.tail _ (List.Mem.tail _ (List.Mem.head _))))) (z_const X rfl (z_add X rfl (z_sld X S hL rfl (show 0 ≤ (i + 2) ∧ (i + 2) < (L : Int) by first | exact sx_in hi (by decide) | omega) ?_))))
  have sr4 : rng (sc xs (i + 2)) := sc_rng
  refine z_aload_n X (x := q1) rfl (List.Mem.head _) (z_load X (x := i) rfl (List.Mem.tail _ (List.Mem.tail _ (List.Mem.tail _ (List.Mem.tail _ (List.Mem.head _))))) (z_const X rfl (z_add X rfl (z_sld X S hL rfl (show 0 ≤ (i + 3) ∧ (i + 3) < (L : Int) by first | exact sx_in hi (by decide) | omega) ?_))))
  have sr5 : rng (sc xs (i + 3)) := sc_rng
  refine z_aload_n X (x := A 517) rfl (List.Mem.tail _ (List.Mem.tail _ (List.Mem.tail _ (List.Mem.head _)))) (z_callL X (rm := rmN 321) (As := [.ref (A 0), .int (Int32.ofInt (sc xs (i + 1))), .int (Int32.ofInt (sc xs (i + 2))), .int (Int32.ofInt (sc xs (i + 3))), .ref (A 517)]) (st := []) rfl (by decide) rfl (by rw [E.1, E.2.1, E.2.2.1]; exact lw_paint G I (by omega) (by omega) (by omega)) ⟨by rw [E.2.2.2]; exact (show 9 + 1 ≤ 2048 by decide), by rw [E.2.2.2]; exact (show 8 + (6 + 11) + 175 ≤ 84000 by decide), by rw [E.2.2.2]; exact (show ce + 4 ≤ 601024 by first | exact rmo_1 hce (by decide) | exact rmo_2 hce (by decide) | omega), by rw [E.2.2.2]; exact (show sl + 24 ≤ 7293034 by first | exact rmo_1 hsl (by decide) | exact rmo_2 hsl (by decide) | omega)⟩ (Nat.le_of_ble_eq_true rfl) (fun vv A s6 hA2 hq => ?_) (fun ee A s6 hA2 hq => ?_))
  rotate_left
  · obtain ⟨Is6, Fs6, e7, hv, hrs6, hps6⟩ := hq; cases hv
  obtain ⟨Is6, Fs6, e7, hv, hrs6, hps6⟩ := hq
  cases hv
  rw [← hA2 0 (by decide)]
  rw [← hA2 179 (by decide)]
  rw [← hA2 517 (by decide)]
  have Gs6 := fm_tq F Fs6 rfl rfl
  have JRLx_s6 : RLx s6 := RLx_fm Fs6 (by decide) jR
  have JSEQ_s6 : SEQ s6 := SEQ_fm Fs6 (by decide) jSEQ
  have ws6_12 : iI s6 12 = iI s 12 := fm_iq Fs6 rfl
  have ws6_89 : iI s6 89 = iI s 89 := fm_iq Fs6 rfl
  show WS k 627 [(0, .ref q1), (1, .ref (A 0)), (2, .ref (A 179)), (3, .ref (A 517)), (4, .int (Int32.ofInt i))] [.int (Int32.ofInt e7)] (Wd A dT s6) (ce + 4) (sl + 24)
  refine z_store X (lv' := [(5, .int (Int32.ofInt e7)), (0, .ref q1), (1, .ref (A 0)), (2, .ref (A 179)), (3, .ref (A 517)), (4, .int (Int32.ofInt i))]) rfl (by decide) (fun _ h => h) (z_aload_n X (x := A 179) rfl (List.Mem.tail _ (List.Mem.tail _ (List.Mem.tail _ (List.Mem.head _)))) (z_aload_n X (x := q1) rfl (List.Mem.tail _ (List.Mem.head _)) (z_load X (x := i) rfl (List.Mem.tail _ (List.Mem.tail _ (List.Mem.tail _ (List.Mem.tail _ (List.Mem.tail _ (List.Mem.head _)))))) (z_const X rfl (z_add X rfl (z_sld X S hL rfl (show 0 ≤ (i + 1) ∧ (i + 1) < (L : Int) by first | exact sx_in hi (by decide) | omega) ?_))))))
  have sr8 : rng (sc xs (i + 1)) := sc_rng
  refine z_aload_n X (x := q1) rfl (List.Mem.tail _ (List.Mem.head _)) (z_load X (x := i) rfl (List.Mem.tail _ (List.Mem.tail _ (List.Mem.tail _ (List.Mem.tail _ (List.Mem.tail _ (List.Mem.head _)))))) (z_const X rfl (z_add X rfl (z_sld X S hL rfl (show 0 ≤ (i + 2) ∧ (i + 2) < (L : Int) by first | exact sx_in hi (by decide) | omega) ?_))))
  have sr9 : rng (sc xs (i + 2)) := sc_rng
  refine z_aload_n X (x := q1) rfl (List.Mem.tail _ (List.Mem.head _)) (z_load X (x := i) rfl (List.Mem.tail _ (List.Mem.tail _ (List.Mem.tail _ (List.Mem.tail _ (List.Mem.tail _ (List.Mem.head _)))))) (z_const X rfl (z_add X rfl (z_sld X S hL rfl (show 0 ≤ (i + 3) ∧ (i + 3) < (L : Int) by first | exact sx_in hi (by decide) | omega) ?_))))
  have sr10 : rng (sc xs (i + 3)) := sc_rng
  refine z_callV X 179 (rm := rmN 235) (As := [.int (Int32.ofInt (sc xs (i + 1))), .int (Int32.ofInt (sc xs (i + 2))), .int (Int32.ofInt (sc xs (i + 3)))]) (st := []) rfl rfl (by decide) rfl (by rw [E.1, E.2.1, E.2.2.1]; exact k_paint G Is6 (by first | exact ⟨sr8.1, sr8.2⟩ | omega) (by first | exact ⟨sr9.1, sr9.2⟩ | omega) (by first | exact ⟨sr10.1, sr10.2⟩ | omega)) ⟨by rw [E.2.2.2]; exact (show 7 + 1 ≤ 2048 from oq_4e6106eb), by rw [E.2.2.2]; exact (show 8 + (6 + 11) + 122 ≤ 84000 from oq_380e4f97), by rw [E.2.2.2]; exact (show (ce + 4) + 0 ≤ 601024 by omega), by rw [E.2.2.2]; exact (show (sl + 24) + 0 ≤ 7293034 by omega)⟩ (Nat.le_of_ble_eq_true rfl) (fun vv s11 hq => ?_) (fun ee s11 hq => ?_)
  rotate_left
  · obtain ⟨Is11, Fs11, e12, hv, hrs11, hps11⟩ := hq; cases hv
  obtain ⟨Is11, Fs11, e12, hv, hrs11, hps11⟩ := hq
  cases hv
  have Gs11 := fm_tq Gs6 Fs11 rfl rfl
  have JRLx_s11 : RLx s11 := RLx_fm Fs11 (by decide) JRLx_s6
  have JSEQ_s11 : SEQ s11 := SEQ_fm Fs11 (by decide) JSEQ_s6
  have ws11_12 : iI s11 12 = iI s6 12 := fm_iq Fs11 rfl
  have ws11_89 : iI s11 89 = iI s6 89 := fm_iq Fs11 rfl
  have wos11 : iO s11 = iO s6 := fm_o Fs11 (by decide)
  show WS k 651 [(5, .int (Int32.ofInt e7)), (0, .ref q1), (1, .ref (A 0)), (2, .ref (A 179)), (3, .ref (A 517)), (4, .int (Int32.ofInt i))] [.int (Int32.ofInt e12)] (Wd A dT s11) (ce + 4) (sl + 24)
  refine z_store X (lv' := [(6, .int (Int32.ofInt e12)), (5, .int (Int32.ofInt e7)), (0, .ref q1), (1, .ref (A 0)), (2, .ref (A 179)), (3, .ref (A 517)), (4, .int (Int32.ofInt i))]) rfl (by decide) (fun _ h => h) (z_goto X (t := 1901) rfl rfl (w_widen (ce' := ce + 29) (sl' := sl + 222) (by first | exact Nat.le_add_right _ _ | exact Nat.add_le_add_left (by decide) _ | omega) (by first | exact Nat.le_add_right _ _ | exact Nat.add_le_add_left (by decide) _ | omega) ?_))
  exact WS_lv (lv := [(0, .ref q1), (1, .ref (A 0)), (2, .ref (A 179)), (3, .ref (A 517)), (4, .int (Int32.ofInt i))]) (List.forall_mem_cons.mpr ⟨(List.Mem.tail _ (List.Mem.tail _ (List.Mem.head _))), (List.forall_mem_cons.mpr ⟨(List.Mem.tail _ (List.Mem.tail _ (List.Mem.tail _ (List.Mem.head _)))), (List.forall_mem_cons.mpr ⟨(List.Mem.tail _ (List.Mem.tail _ (List.Mem.tail _ (List.Mem.tail _ (List.Mem.head _))))), (List.forall_mem_cons.mpr ⟨(List.Mem.tail _ (List.Mem.tail _ (List.Mem.tail _ (List.Mem.tail _ (List.Mem.tail _ (List.Mem.head _)))))), (List.forall_mem_cons.mpr ⟨(List.Mem.tail _ (List.Mem.tail _ (List.Mem.tail _ (List.Mem.tail _ (List.Mem.tail _ (List.Mem.tail _ (List.Mem.head _))))))), (fun q h => absurd h List.not_mem_nil)⟩)⟩)⟩)⟩)⟩) (hk A _ Is11 JRLx_s11 JSEQ_s11 (by first | exact oq_f34933ba ws11_89 ws6_89 p1 b2.1 | omega) (by first | exact oq_d7ce4408 ws11_12 ws6_12 p2 | omega))
theorem lc_10 (G : GX l s0 D tys a0 dT) (GR : RS0 s0) (SF : SF0 s0) (GT : TXs0 s0) {k : kx_T} (X : AX k 350 dT) (E : kL k = l ∧ kS0 k = s0 ∧ kD k = D ∧ kR k = room_1) {q1 L : Nat} {xs : Nat → Int32} (S : SX k q1 L xs) (hL : L ≤ 3072) (I : Bd s) (jR : RLx s) (jSEQ : SEQ s) (p1 : iI s 89 = 1) (p2 : iI s 12 ≤ 8) {i : Int} (hi : 0 ≤ i ∧ i + 6 ≤ (L : Int)) {ce sl : Nat} (hce : ce + 29 ≤ 601024) (hsl : sl + 222 ≤ 7293034) (hk : ∀ (A : Nat → Nat) (t : PS), Bd t → RLx t → SEQ t → iI t 89 = 1 → iI t 12 ≤ 8 → WS k 1901 [(0, .ref q1), (1, .ref (A 0)), (2, .ref (A 179)), (3, .ref (A 517)), (4, .int (Int32.ofInt i))] [] (Wd A dT t) (ce + 29) (sl + 222)) : WS k 656 [(0, .ref q1), (1, .ref (A 0)), (2, .ref (A 179)), (3, .ref (A 517)), (4, .int (Int32.ofInt i))] [] (Wd A dT s) ce sl := by
  have F : Fm [73] [24, 1460, 229] s s := fm_rf _ _ s
  have b1 := bi_12 I
  have b2 := bi_89 I
  refine z_aload_n X (x := A 0) rfl (List.Mem.tail _ (List.Mem.head _)) (z_aload_n X (x := q1) rfl (List.Mem.head _) (z_load X (x := i) rfl (List.Mem.tail _ (List.Mem.tail _ (List.Mem.tail _ (List.Mem.tail _ (List.Mem.head _))))) (z_const X rfl (z_add X rfl (z_sld X S hL rfl (show 0 ≤ (i + 1) ∧ (i + 1) < (L : Int) by first | exact sx_in hi (by decide) | omega) ?_)))))
  have sr3 : rng (sc xs (i + 1)) := sc_rng
  refine z_aload_n X (x := q1) rfl (List.Mem.head _) (z_load X (x := i) rfl (List.Mem.tail _ (List.Mem.tail _ (List.Mem.tail _ (List.Mem.tail _ (List.Mem.head _))))) (z_const X rfl (z_add X rfl (z_sld X S hL rfl (show 0 ≤ (i + 2) ∧ (i + 2) < (L : Int) by first | exact sx_in hi (by decide) | omega) ?_))))
  have sr4 : rng (sc xs (i + 2)) := sc_rng
  refine z_aload_n X (x := A 517) rfl (List.Mem.tail _ (List.Mem.tail _ (List.Mem.tail _ (List.Mem.head _)))) (z_callL X (rm := rmN 322) (As := [.ref (A 0), .int (Int32.ofInt (sc xs (i + 1))), .int (Int32.ofInt (sc xs (i + 2))), .ref (A 517)]) (st := []) rfl (by decide) rfl (by rw [E.1, E.2.1, E.2.2.1]; exact lw_limit G I (by omega) (by omega)) ⟨by rw [E.2.2.2]; exact (show 9 + 1 ≤ 2048 by decide), by rw [E.2.2.2]; exact (show 8 + (5 + 11) + 167 ≤ 84000 by decide), by rw [E.2.2.2]; exact (show ce + 2 ≤ 601024 by first | exact rmo_1 hce (by decide) | exact rmo_2 hce (by decide) | omega), by rw [E.2.2.2]; exact (show sl + 12 ≤ 7293034 by first | exact rmo_1 hsl (by decide) | exact rmo_2 hsl (by decide) | omega)⟩ (Nat.le_of_ble_eq_true rfl) (fun vv A s5 hA2 hq => ?_) (fun ee A s5 hA2 hq => ?_))
  rotate_left
  · obtain ⟨Is5, Fs5, e6, hv, hrs5, hps5⟩ := hq; cases hv
  obtain ⟨Is5, Fs5, e6, hv, hrs5, hps5⟩ := hq
  cases hv
  rw [← hA2 0 (by decide)]
  rw [← hA2 179 (by decide)]
  rw [← hA2 517 (by decide)]
  have Gs5 := fm_tq F Fs5 rfl rfl
  have JRLx_s5 : RLx s5 := RLx_fm Fs5 (by decide) jR
  have JSEQ_s5 : SEQ s5 := SEQ_fm Fs5 (by decide) jSEQ
  have ws5_12 : iI s5 12 = iI s 12 := fm_iq Fs5 rfl
  have ws5_89 : iI s5 89 = iI s 89 := fm_iq Fs5 rfl
  show WS k 673 [(0, .ref q1), (1, .ref (A 0)), (2, .ref (A 179)), (3, .ref (A 517)), (4, .int (Int32.ofInt i))] [.int (Int32.ofInt e6)] (Wd A dT s5) (ce + 2) (sl + 12)
  refine z_store X (lv' := [(5, .int (Int32.ofInt e6)), (0, .ref q1), (1, .ref (A 0)), (2, .ref (A 179)), (3, .ref (A 517)), (4, .int (Int32.ofInt i))]) rfl (by decide) (fun _ h => h) (z_aload_n X (x := A 179) rfl (List.Mem.tail _ (List.Mem.tail _ (List.Mem.tail _ (List.Mem.head _)))) (z_aload_n X (x := q1) rfl (List.Mem.tail _ (List.Mem.head _)) (z_load X (x := i) rfl (List.Mem.tail _ (List.Mem.tail _ (List.Mem.tail _ (List.Mem.tail _ (List.Mem.tail _ (List.Mem.head _)))))) (z_const X rfl (z_add X rfl (z_sld X S hL rfl (show 0 ≤ (i + 1) ∧ (i + 1) < (L : Int) by first | exact sx_in hi (by decide) | omega) ?_))))))
  have sr7 : rng (sc xs (i + 1)) := sc_rng
  refine z_aload_n X (x := q1) rfl (List.Mem.tail _ (List.Mem.head _)) (z_load X (x := i) rfl (List.Mem.tail _ (List.Mem.tail _ (List.Mem.tail _ (List.Mem.tail _ (List.Mem.tail _ (List.Mem.head _)))))) (z_const X rfl (z_add X rfl (z_sld X S hL rfl (show 0 ≤ (i + 2) ∧ (i + 2) < (L : Int) by first | exact sx_in hi (by decide) | omega) ?_))))
  have sr8 : rng (sc xs (i + 2)) := sc_rng
  refine z_callV X 179 (rm := rmN 236) (As := [.int (Int32.ofInt (sc xs (i + 1))), .int (Int32.ofInt (sc xs (i + 2)))]) (st := []) rfl rfl (by decide) rfl (by rw [E.1, E.2.1, E.2.2.1]; exact k_limit G Is5 (by first | exact ⟨sr7.1, sr7.2⟩ | omega) (by first | exact ⟨sr8.1, sr8.2⟩ | omega)) ⟨by rw [E.2.2.2]; exact (show 7 + 1 ≤ 2048 from oq_4e6106eb), by rw [E.2.2.2]; exact (show 8 + (4 + 11) + 122 ≤ 84000 from oq_ebbf79c1), by rw [E.2.2.2]; exact (show (ce + 2) + 0 ≤ 601024 by omega), by rw [E.2.2.2]; exact (show (sl + 12) + 0 ≤ 7293034 by omega)⟩ (Nat.le_of_ble_eq_true rfl) (fun vv s9 hq => ?_) (fun ee s9 hq => ?_)
  rotate_left
  · obtain ⟨Is9, Fs9, e10, hv, hrs9, hps9⟩ := hq; cases hv
  obtain ⟨Is9, Fs9, e10, hv, hrs9, hps9⟩ := hq
  cases hv
  have Gs9 := fm_tq Gs5 Fs9 rfl rfl
  have JRLx_s9 : RLx s9 := RLx_fm Fs9 (by decide) JRLx_s5
  have JSEQ_s9 : SEQ s9 := SEQ_fm Fs9 (by decide) JSEQ_s5
  have ws9_12 : iI s9 12 = iI s5 12 := fm_iq Fs9 rfl
  have ws9_89 : iI s9 89 = iI s5 89 := fm_iq Fs9 rfl
  have wos9 : iO s9 = iO s5 := fm_o Fs9 (by decide)
  show WS k 691 [(5, .int (Int32.ofInt e6)), (0, .ref q1), (1, .ref (A 0)), (2, .ref (A 179)), (3, .ref (A 517)), (4, .int (Int32.ofInt i))] [.int (Int32.ofInt e10)] (Wd A dT s9) (ce + 2) (sl + 12)
  refine z_store X (lv' := [(6, .int (Int32.ofInt e10)), (5, .int (Int32.ofInt e6)), (0, .ref q1), (1, .ref (A 0)), (2, .ref (A 179)), (3, .ref (A 517)), (4, .int (Int32.ofInt i))]) rfl (by decide) (fun _ h => h) (z_goto X (t := 1901) rfl rfl (w_widen (ce' := ce + 29) (sl' := sl + 222) (by first | exact Nat.le_add_right _ _ | exact Nat.add_le_add_left (by decide) _ | omega) (by first | exact Nat.le_add_right _ _ | exact Nat.add_le_add_left (by decide) _ | omega) ?_))
  exact WS_lv (lv := [(0, .ref q1), (1, .ref (A 0)), (2, .ref (A 179)), (3, .ref (A 517)), (4, .int (Int32.ofInt i))]) (List.forall_mem_cons.mpr ⟨(List.Mem.tail _ (List.Mem.tail _ (List.Mem.head _))), (List.forall_mem_cons.mpr ⟨(List.Mem.tail _ (List.Mem.tail _ (List.Mem.tail _ (List.Mem.head _)))), (List.forall_mem_cons.mpr ⟨(List.Mem.tail _ (List.Mem.tail _ (List.Mem.tail _ (List.Mem.tail _ (List.Mem.head _))))), (List.forall_mem_cons.mpr ⟨(List.Mem.tail _ (List.Mem.tail _ (List.Mem.tail _ (List.Mem.tail _ (List.Mem.tail _ (List.Mem.head _)))))), (List.forall_mem_cons.mpr ⟨(List.Mem.tail _ (List.Mem.tail _ (List.Mem.tail _ (List.Mem.tail _ (List.Mem.tail _ (List.Mem.tail _ (List.Mem.head _))))))), (fun q h => absurd h List.not_mem_nil)⟩)⟩)⟩)⟩)⟩) (hk A _ Is9 JRLx_s9 JSEQ_s9 (by first | exact oq_f34933ba ws9_89 ws5_89 p1 b2.1 | omega) (by first | exact oq_d7ce4408 ws9_12 ws5_12 p2 | omega))
theorem lc_11 (G : GX l s0 D tys a0 dT) (GR : RS0 s0) (SF : SF0 s0) (GT : TXs0 s0) {k : kx_T} (X : AX k 350 dT) (E : kL k = l ∧ kS0 k = s0 ∧ kD k = D ∧ kR k = room_1) {q1 L : Nat} {xs : Nat → Int32} (S : SX k q1 L xs) (hL : L ≤ 3072) (I : Bd s) (jR : RLx s) (jSEQ : SEQ s) (p1 : iI s 89 = 1) (p2 : iI s 12 ≤ 8) {i : Int} (hi : 0 ≤ i ∧ i + 6 ≤ (L : Int)) {ce sl : Nat} (hce : ce + 29 ≤ 601024) (hsl : sl + 222 ≤ 7293034) (hk : ∀ (A : Nat → Nat) (t : PS), Bd t → RLx t → SEQ t → iI t 89 = 1 → iI t 12 ≤ 8 → WS k 1901 [(0, .ref q1), (1, .ref (A 0)), (2, .ref (A 179)), (3, .ref (A 517)), (4, .int (Int32.ofInt i))] [] (Wd A dT t) (ce + 29) (sl + 222)) : WS k 696 [(0, .ref q1), (1, .ref (A 0)), (2, .ref (A 179)), (3, .ref (A 517)), (4, .int (Int32.ofInt i))] [] (Wd A dT s) ce sl := by
  have F : Fm [22, 23, 73, 77, 75, 78, 79, 80, 81] [33, 26, 27, 28, 29, 30, 31, 32, 20, 1460, 202, 204, 205, 206, 207, 208, 209, 210, 211, 212, 213, 214, 215, 216, 217, 218, 219, 220, 221, 222, 223, 224, 225, 226, 227, 203, 161, 230] s s := fm_rf _ _ s
  have b1 := bi_12 I
  have b2 := bi_89 I
  refine z_aload_n X (x := A 0) rfl (List.Mem.tail _ (List.Mem.head _)) (z_aload_n X (x := q1) rfl (List.Mem.head _) (z_load X (x := i) rfl (List.Mem.tail _ (List.Mem.tail _ (List.Mem.tail _ (List.Mem.tail _ (List.Mem.head _))))) (z_const X rfl (z_add X rfl (z_sld X S hL rfl (show 0 ≤ (i + 1) ∧ (i + 1) < (L : Int) by first | exact sx_in hi (by decide) | omega) ?_)))))
  have sr3 : rng (sc xs (i + 1)) := sc_rng
  refine z_aload_n X (x := q1) rfl (List.Mem.head _) (z_load X (x := i) rfl (List.Mem.tail _ (List.Mem.tail _ (List.Mem.tail _ (List.Mem.tail _ (List.Mem.head _))))) (z_const X rfl (z_add X rfl (z_sld X S hL rfl (show 0 ≤ (i + 2) ∧ (i + 2) < (L : Int) by first | exact sx_in hi (by decide) | omega) ?_))))
  have sr4 : rng (sc xs (i + 2)) := sc_rng
  refine z_aload_n X (x := q1) rfl (List.Mem.head _) (z_load X (x := i) rfl (List.Mem.tail _ (List.Mem.tail _ (List.Mem.tail _ (List.Mem.tail _ (List.Mem.head _))))) (z_const X rfl (z_add X rfl (z_sld X S hL rfl (show 0 ≤ (i + 3) ∧ (i + 3) < (L : Int) by first | exact sx_in hi (by decide) | omega) ?_))))
  have sr5 : rng (sc xs (i + 3)) := sc_rng
  refine z_aload_n X (x := A 517) rfl (List.Mem.tail _ (List.Mem.tail _ (List.Mem.tail _ (List.Mem.head _)))) (z_callL X (rm := rmN 323) (As := [.ref (A 0), .int (Int32.ofInt (sc xs (i + 1))), .int (Int32.ofInt (sc xs (i + 2))), .int (Int32.ofInt (sc xs (i + 3))), .ref (A 517)]) (st := []) rfl (by decide) rfl (by rw [E.1, E.2.1, E.2.2.1]; exact lw_hears G I (by omega) (by omega) (by omega)) ⟨by rw [E.2.2.2]; exact (show 11 + 1 ≤ 2048 by decide), by rw [E.2.2.2]; exact (show 8 + (6 + 11) + 229 ≤ 84000 by decide), by rw [E.2.2.2]; exact (show ce + 3 ≤ 601024 by first | exact rmo_1 hce (by decide) | exact rmo_2 hce (by decide) | omega), by rw [E.2.2.2]; exact (show sl + 18 ≤ 7293034 by first | exact rmo_1 hsl (by decide) | exact rmo_2 hsl (by decide) | omega)⟩ (Nat.le_of_ble_eq_true rfl) (fun vv A s6 hA2 hq => ?_) (fun ee A s6 hA2 hq => ?_))
  rotate_left
  · obtain ⟨Is6, Fs6, e7, hv, hrs6, hps6⟩ := hq; cases hv
  obtain ⟨Is6, Fs6, e7, hv, hrs6, hps6⟩ := hq
  cases hv
  rw [← hA2 0 (by decide)]
  rw [← hA2 179 (by decide)]
  rw [← hA2 517 (by decide)]
  have Gs6 := fm_tq F Fs6 rfl rfl
  have JRLx_s6 : RLx s6 := RLx_fm Fs6 (by decide) jR
  have JSEQ_s6 : SEQ s6 := SEQ_fm Fs6 (by decide) jSEQ
  have ws6_12 : iI s6 12 = iI s 12 := fm_iq Fs6 rfl
  have ws6_89 : iI s6 89 = iI s 89 := fm_iq Fs6 rfl
  show WS k 719 [(0, .ref q1), (1, .ref (A 0)), (2, .ref (A 179)), (3, .ref (A 517)), (4, .int (Int32.ofInt i))] [.int (Int32.ofInt e7)] (Wd A dT s6) (ce + 3) (sl + 18)
  refine z_store X (lv' := [(5, .int (Int32.ofInt e7)), (0, .ref q1), (1, .ref (A 0)), (2, .ref (A 179)), (3, .ref (A 517)), (4, .int (Int32.ofInt i))]) rfl (by decide) (fun _ h => h) (z_aload_n X (x := A 179) rfl (List.Mem.tail _ (List.Mem.tail _ (List.Mem.tail _ (List.Mem.head _)))) (z_aload_n X (x := q1) rfl (List.Mem.tail _ (List.Mem.head _)) (z_load X (x := i) rfl (List.Mem.tail _ (List.Mem.tail _ (List.Mem.tail _ (List.Mem.tail _ (List.Mem.tail _ (List.Mem.head _)))))) (z_const X rfl (z_add X rfl (z_sld X S hL rfl (show 0 ≤ (i + 1) ∧ (i + 1) < (L : Int) by first | exact sx_in hi (by decide) | omega) ?_))))))
  have sr8 : rng (sc xs (i + 1)) := sc_rng
  refine z_aload_n X (x := q1) rfl (List.Mem.tail _ (List.Mem.head _)) (z_load X (x := i) rfl (List.Mem.tail _ (List.Mem.tail _ (List.Mem.tail _ (List.Mem.tail _ (List.Mem.tail _ (List.Mem.head _)))))) (z_const X rfl (z_add X rfl (z_sld X S hL rfl (show 0 ≤ (i + 2) ∧ (i + 2) < (L : Int) by first | exact sx_in hi (by decide) | omega) ?_))))
  have sr9 : rng (sc xs (i + 2)) := sc_rng
  refine z_aload_n X (x := q1) rfl (List.Mem.tail _ (List.Mem.head _)) (z_load X (x := i) rfl (List.Mem.tail _ (List.Mem.tail _ (List.Mem.tail _ (List.Mem.tail _ (List.Mem.tail _ (List.Mem.head _)))))) (z_const X rfl (z_add X rfl (z_sld X S hL rfl (show 0 ≤ (i + 3) ∧ (i + 3) < (L : Int) by first | exact sx_in hi (by decide) | omega) ?_))))
  have sr10 : rng (sc xs (i + 3)) := sc_rng
  refine z_callV X 179 (rm := rmN 237) (As := [.int (Int32.ofInt (sc xs (i + 1))), .int (Int32.ofInt (sc xs (i + 2))), .int (Int32.ofInt (sc xs (i + 3)))]) (st := []) rfl rfl (by decide) rfl (by rw [E.1, E.2.1, E.2.2.1]; exact k_hears G Is6 JRLx_s6 (by first | exact ⟨sr8.1, sr8.2⟩ | omega) (by first | exact ⟨sr9.1, sr9.2⟩ | omega) (by first | exact ⟨sr10.1, sr10.2⟩ | omega)) ⟨by rw [E.2.2.2]; exact (show 37 + 1 ≤ 2048 from oq_2596b3cb), by rw [E.2.2.2]; exact (show 8 + (5 + 11) + 1578 ≤ 84000 from oq_93887b04), by rw [E.2.2.2]; exact (show (ce + 3) + 0 ≤ 601024 by omega), by rw [E.2.2.2]; exact (show (sl + 18) + 0 ≤ 7293034 by omega)⟩ (Nat.le_of_ble_eq_true rfl) (fun vv s11 hq => ?_) (fun ee s11 hq => ?_)
  rotate_left
  · obtain ⟨Is11, Fs11, JRLx_s11, e12, hv, hrs11, hps11⟩ := hq; cases hv
  obtain ⟨Is11, Fs11, JRLx_s11, e12, hv, hrs11, hps11⟩ := hq
  cases hv
  have Gs11 := fm_tq Gs6 Fs11 rfl rfl
  have JRLx_s11 : RLx s11 := RLx_fm Fs11 (by decide) JRLx_s6
  have JSEQ_s11 : SEQ s11 := SEQ_fm Fs11 (by decide) JSEQ_s6
  have ws11_12 : iI s11 12 = iI s6 12 := fm_iq Fs11 rfl
  have ws11_89 : iI s11 89 = iI s6 89 := fm_iq Fs11 rfl
  have wos11 : iO s11 = iO s6 := fm_o Fs11 (by decide)
  show WS k 743 [(5, .int (Int32.ofInt e7)), (0, .ref q1), (1, .ref (A 0)), (2, .ref (A 179)), (3, .ref (A 517)), (4, .int (Int32.ofInt i))] [.int (Int32.ofInt e12)] (Wd A dT s11) (ce + 3) (sl + 18)
  refine z_store X (lv' := [(6, .int (Int32.ofInt e12)), (5, .int (Int32.ofInt e7)), (0, .ref q1), (1, .ref (A 0)), (2, .ref (A 179)), (3, .ref (A 517)), (4, .int (Int32.ofInt i))]) rfl (by decide) (fun _ h => h) (z_goto X (t := 1901) rfl rfl (w_widen (ce' := ce + 29) (sl' := sl + 222) (by first | exact Nat.le_add_right _ _ | exact Nat.add_le_add_left (by decide) _ | omega) (by first | exact Nat.le_add_right _ _ | exact Nat.add_le_add_left (by decide) _ | omega) ?_))
  exact WS_lv (lv := [(0, .ref q1), (1, .ref (A 0)), (2, .ref (A 179)), (3, .ref (A 517)), (4, .int (Int32.ofInt i))]) (List.forall_mem_cons.mpr ⟨(List.Mem.tail _ (List.Mem.tail _ (List.Mem.head _))), (List.forall_mem_cons.mpr ⟨(List.Mem.tail _ (List.Mem.tail _ (List.Mem.tail _ (List.Mem.head _)))), (List.forall_mem_cons.mpr ⟨(List.Mem.tail _ (List.Mem.tail _ (List.Mem.tail _ (List.Mem.tail _ (List.Mem.head _))))), (List.forall_mem_cons.mpr ⟨(List.Mem.tail _ (List.Mem.tail _ (List.Mem.tail _ (List.Mem.tail _ (List.Mem.tail _ (List.Mem.head _)))))), (List.forall_mem_cons.mpr ⟨(List.Mem.tail _ (List.Mem.tail _ (List.Mem.tail _ (List.Mem.tail _ (List.Mem.tail _ (List.Mem.tail _ (List.Mem.head _))))))), (fun q h => absurd h List.not_mem_nil)⟩)⟩)⟩)⟩)⟩) (hk A _ Is11 JRLx_s11 JSEQ_s11 (by first | exact oq_f34933ba ws11_89 ws6_89 p1 b2.1 | omega) (by first | exact oq_d7ce4408 ws11_12 ws6_12 p2 | omega))
theorem lc_12 (G : GX l s0 D tys a0 dT) (GR : RS0 s0) (SF : SF0 s0) (GT : TXs0 s0) {k : kx_T} (X : AX k 350 dT) (E : kL k = l ∧ kS0 k = s0 ∧ kD k = D ∧ kR k = room_1) {q1 L : Nat} {xs : Nat → Int32} (S : SX k q1 L xs) (hL : L ≤ 3072) (I : Bd s) (jR : RLx s) (jSEQ : SEQ s) (p1 : iI s 89 = 1) (p2 : iI s 12 ≤ 8) {i : Int} (hi : 0 ≤ i ∧ i + 6 ≤ (L : Int)) {ce sl : Nat} (hce : ce + 29 ≤ 601024) (hsl : sl + 222 ≤ 7293034) (hk : ∀ (A : Nat → Nat) (t : PS), Bd t → RLx t → SEQ t → iI t 89 = 1 → iI t 12 ≤ 8 → WS k 1901 [(0, .ref q1), (1, .ref (A 0)), (2, .ref (A 179)), (3, .ref (A 517)), (4, .int (Int32.ofInt i))] [] (Wd A dT t) (ce + 29) (sl + 222)) : WS k 748 [(0, .ref q1), (1, .ref (A 0)), (2, .ref (A 179)), (3, .ref (A 517)), (4, .int (Int32.ofInt i))] [] (Wd A dT s) ce sl := by
  have F : Fm [22, 23, 24, 73, 77, 75, 78, 79, 80, 81] [33, 26, 27, 28, 29, 30, 31, 32, 20, 1460, 202, 204, 205, 206, 207, 208, 209, 210, 211, 212, 213, 214, 215, 216, 217, 218, 219, 220, 221, 222, 223, 224, 225, 226, 227, 203, 161, 230] s s := fm_rf _ _ s
  have b1 := bi_12 I
  have b2 := bi_89 I
  refine z_aload_n X (x := A 0) rfl (List.Mem.tail _ (List.Mem.head _)) (z_aload_n X (x := q1) rfl (List.Mem.head _) (z_load X (x := i) rfl (List.Mem.tail _ (List.Mem.tail _ (List.Mem.tail _ (List.Mem.tail _ (List.Mem.head _))))) (z_const X rfl (z_add X rfl (z_sld X S hL rfl (show 0 ≤ (i + 1) ∧ (i + 1) < (L : Int) by first | exact sx_in hi (by decide) | omega) ?_)))))
  have sr3 : rng (sc xs (i + 1)) := sc_rng
  refine z_aload_n X (x := q1) rfl (List.Mem.head _) (z_load X (x := i) rfl (List.Mem.tail _ (List.Mem.tail _ (List.Mem.tail _ (List.Mem.tail _ (List.Mem.head _))))) (z_const X rfl (z_add X rfl (z_sld X S hL rfl (show 0 ≤ (i + 2) ∧ (i + 2) < (L : Int) by first | exact sx_in hi (by decide) | omega) ?_))))
  have sr4 : rng (sc xs (i + 2)) := sc_rng
  refine z_aload_n X (x := A 517) rfl (List.Mem.tail _ (List.Mem.tail _ (List.Mem.tail _ (List.Mem.head _)))) (z_callL X (rm := rmN 324) (As := [.ref (A 0), .int (Int32.ofInt (sc xs (i + 1))), .int (Int32.ofInt (sc xs (i + 2))), .ref (A 517)]) (st := []) rfl (by decide) rfl (by rw [E.1, E.2.1, E.2.2.1]; exact lw_peak G I (by omega) (by omega)) ⟨by rw [E.2.2.2]; exact (show 11 + 1 ≤ 2048 by decide), by rw [E.2.2.2]; exact (show 8 + (5 + 11) + 228 ≤ 84000 by decide), by rw [E.2.2.2]; exact (show ce + 2 ≤ 601024 by first | exact rmo_1 hce (by decide) | exact rmo_2 hce (by decide) | omega), by rw [E.2.2.2]; exact (show sl + 12 ≤ 7293034 by first | exact rmo_1 hsl (by decide) | exact rmo_2 hsl (by decide) | omega)⟩ (Nat.le_of_ble_eq_true rfl) (fun vv A s5 hA2 hq => ?_) (fun ee A s5 hA2 hq => ?_))
  rotate_left
  · obtain ⟨Is5, Fs5, e6, hv, hrs5, hps5⟩ := hq; cases hv
  obtain ⟨Is5, Fs5, e6, hv, hrs5, hps5⟩ := hq
  cases hv
  rw [← hA2 0 (by decide)]
  rw [← hA2 179 (by decide)]
  rw [← hA2 517 (by decide)]
  have Gs5 := fm_tq F Fs5 rfl rfl
  have JRLx_s5 : RLx s5 := RLx_fm Fs5 (by decide) jR
  have JSEQ_s5 : SEQ s5 := SEQ_fm Fs5 (by decide) jSEQ
  have ws5_12 : iI s5 12 = iI s 12 := fm_iq Fs5 rfl
  have ws5_89 : iI s5 89 = iI s 89 := fm_iq Fs5 rfl
  show WS k 765 [(0, .ref q1), (1, .ref (A 0)), (2, .ref (A 179)), (3, .ref (A 517)), (4, .int (Int32.ofInt i))] [.int (Int32.ofInt e6)] (Wd A dT s5) (ce + 2) (sl + 12)
  refine z_store X (lv' := [(5, .int (Int32.ofInt e6)), (0, .ref q1), (1, .ref (A 0)), (2, .ref (A 179)), (3, .ref (A 517)), (4, .int (Int32.ofInt i))]) rfl (by decide) (fun _ h => h) (z_aload_n X (x := A 179) rfl (List.Mem.tail _ (List.Mem.tail _ (List.Mem.tail _ (List.Mem.head _)))) (z_aload_n X (x := q1) rfl (List.Mem.tail _ (List.Mem.head _)) (z_load X (x := i) rfl (List.Mem.tail _ (List.Mem.tail _ (List.Mem.tail _ (List.Mem.tail _ (List.Mem.tail _ (List.Mem.head _)))))) (z_const X rfl (z_add X rfl (z_sld X S hL rfl (show 0 ≤ (i + 1) ∧ (i + 1) < (L : Int) by first | exact sx_in hi (by decide) | omega) ?_))))))
  have sr7 : rng (sc xs (i + 1)) := sc_rng
  refine z_aload_n X (x := q1) rfl (List.Mem.tail _ (List.Mem.head _)) (z_load X (x := i) rfl (List.Mem.tail _ (List.Mem.tail _ (List.Mem.tail _ (List.Mem.tail _ (List.Mem.tail _ (List.Mem.head _)))))) (z_const X rfl (z_add X rfl (z_sld X S hL rfl (show 0 ≤ (i + 2) ∧ (i + 2) < (L : Int) by first | exact sx_in hi (by decide) | omega) ?_))))
  have sr8 : rng (sc xs (i + 2)) := sc_rng
  refine z_callV X 179 (rm := rmN 238) (As := [.int (Int32.ofInt (sc xs (i + 1))), .int (Int32.ofInt (sc xs (i + 2)))]) (st := []) rfl rfl (by decide) rfl (by rw [E.1, E.2.1, E.2.2.1]; exact k_peak G Is5 JRLx_s5 (by first | exact ⟨sr7.1, sr7.2⟩ | omega) (by first | exact ⟨sr8.1, sr8.2⟩ | omega)) ⟨by rw [E.2.2.2]; exact (show 39 + 1 ≤ 2048 from oq_dead3895), by rw [E.2.2.2]; exact (show 8 + (5 + 11) + 1622 ≤ 84000 from oq_16841511), by rw [E.2.2.2]; exact (show (ce + 2) + 0 ≤ 601024 by omega), by rw [E.2.2.2]; exact (show (sl + 12) + 0 ≤ 7293034 by omega)⟩ (Nat.le_of_ble_eq_true rfl) (fun vv s9 hq => ?_) (fun ee s9 hq => ?_)
  rotate_left
  · obtain ⟨Is9, Fs9, JRLx_s9, e10, hv, hrs9, hps9⟩ := hq; cases hv
  obtain ⟨Is9, Fs9, JRLx_s9, e10, hv, hrs9, hps9⟩ := hq
  cases hv
  have Gs9 := fm_tq Gs5 Fs9 rfl rfl
  have JRLx_s9 : RLx s9 := RLx_fm Fs9 (by decide) JRLx_s5
  have JSEQ_s9 : SEQ s9 := SEQ_fm Fs9 (by decide) JSEQ_s5
  have ws9_12 : iI s9 12 = iI s5 12 := fm_iq Fs9 rfl
  have ws9_89 : iI s9 89 = iI s5 89 := fm_iq Fs9 rfl
  have wos9 : iO s9 = iO s5 := fm_o Fs9 (by decide)
  show WS k 783 [(5, .int (Int32.ofInt e6)), (0, .ref q1), (1, .ref (A 0)), (2, .ref (A 179)), (3, .ref (A 517)), (4, .int (Int32.ofInt i))] [.int (Int32.ofInt e10)] (Wd A dT s9) (ce + 2) (sl + 12)
  refine z_store X (lv' := [(6, .int (Int32.ofInt e10)), (5, .int (Int32.ofInt e6)), (0, .ref q1), (1, .ref (A 0)), (2, .ref (A 179)), (3, .ref (A 517)), (4, .int (Int32.ofInt i))]) rfl (by decide) (fun _ h => h) (z_goto X (t := 1901) rfl rfl (w_widen (ce' := ce + 29) (sl' := sl + 222) (by first | exact Nat.le_add_right _ _ | exact Nat.add_le_add_left (by decide) _ | omega) (by first | exact Nat.le_add_right _ _ | exact Nat.add_le_add_left (by decide) _ | omega) ?_))
  exact WS_lv (lv := [(0, .ref q1), (1, .ref (A 0)), (2, .ref (A 179)), (3, .ref (A 517)), (4, .int (Int32.ofInt i))]) (List.forall_mem_cons.mpr ⟨(List.Mem.tail _ (List.Mem.tail _ (List.Mem.head _))), (List.forall_mem_cons.mpr ⟨(List.Mem.tail _ (List.Mem.tail _ (List.Mem.tail _ (List.Mem.head _)))), (List.forall_mem_cons.mpr ⟨(List.Mem.tail _ (List.Mem.tail _ (List.Mem.tail _ (List.Mem.tail _ (List.Mem.head _))))), (List.forall_mem_cons.mpr ⟨(List.Mem.tail _ (List.Mem.tail _ (List.Mem.tail _ (List.Mem.tail _ (List.Mem.tail _ (List.Mem.head _)))))), (List.forall_mem_cons.mpr ⟨(List.Mem.tail _ (List.Mem.tail _ (List.Mem.tail _ (List.Mem.tail _ (List.Mem.tail _ (List.Mem.tail _ (List.Mem.head _))))))), (fun q h => absurd h List.not_mem_nil)⟩)⟩)⟩)⟩)⟩) (hk A _ Is9 JRLx_s9 JSEQ_s9 (by first | exact oq_f34933ba ws9_89 ws5_89 p1 b2.1 | omega) (by first | exact oq_d7ce4408 ws9_12 ws5_12 p2 | omega))
theorem lc_13 (G : GX l s0 D tys a0 dT) (GR : RS0 s0) (SF : SF0 s0) (GT : TXs0 s0) {k : kx_T} (X : AX k 350 dT) (E : kL k = l ∧ kS0 k = s0 ∧ kD k = D ∧ kR k = room_1) {q1 L : Nat} {xs : Nat → Int32} (S : SX k q1 L xs) (hL : L ≤ 3072) (I : Bd s) (jR : RLx s) (jSEQ : SEQ s) (p1 : iI s 89 = 1) (p2 : iI s 12 ≤ 8) {i : Int} (hi : 0 ≤ i ∧ i + 6 ≤ (L : Int)) {ce sl : Nat} (hce : ce + 29 ≤ 601024) (hsl : sl + 222 ≤ 7293034) (hk : ∀ (A : Nat → Nat) (t : PS), Bd t → RLx t → SEQ t → iI t 89 = 1 → iI t 12 ≤ 8 → WS k 1901 [(0, .ref q1), (1, .ref (A 0)), (2, .ref (A 179)), (3, .ref (A 517)), (4, .int (Int32.ofInt i))] [] (Wd A dT t) (ce + 29) (sl + 222)) : WS k 788 [(0, .ref q1), (1, .ref (A 0)), (2, .ref (A 179)), (3, .ref (A 517)), (4, .int (Int32.ofInt i))] [] (Wd A dT s) ce sl := by
  have F : Fm [73] [1460, 231, 232, 230] s s := fm_rf _ _ s
  have b1 := bi_12 I
  have b2 := bi_89 I
  refine z_aload_n X (x := A 0) rfl (List.Mem.tail _ (List.Mem.head _)) (z_aload_n X (x := q1) rfl (List.Mem.head _) (z_load X (x := i) rfl (List.Mem.tail _ (List.Mem.tail _ (List.Mem.tail _ (List.Mem.tail _ (List.Mem.head _))))) (z_const X rfl (z_add X rfl (z_sld X S hL rfl (show 0 ≤ (i + 1) ∧ (i + 1) < (L : Int) by first | exact sx_in hi (by decide) | omega) ?_)))))
  have sr3 : rng (sc xs (i + 1)) := sc_rng
  refine z_aload_n X (x := A 517) rfl (List.Mem.tail _ (List.Mem.tail _ (List.Mem.tail _ (List.Mem.head _)))) (z_callL X (rm := rmN 325) (As := [.ref (A 0), .int (Int32.ofInt (sc xs (i + 1))), .ref (A 517)]) (st := []) rfl (by decide) rfl (by rw [E.1, E.2.1, E.2.2.1]; exact lw_whole G I (by omega)) ⟨by rw [E.2.2.2]; exact (show 10 + 1 ≤ 2048 by decide), by rw [E.2.2.2]; exact (show 8 + (4 + 11) + 203 ≤ 84000 by decide), by rw [E.2.2.2]; exact (show ce + 1 ≤ 601024 by first | exact rmo_1 hce (by decide) | exact rmo_2 hce (by decide) | omega), by rw [E.2.2.2]; exact (show sl + 6 ≤ 7293034 by first | exact rmo_1 hsl (by decide) | exact rmo_2 hsl (by decide) | omega)⟩ (Nat.le_of_ble_eq_true rfl) (fun vv A s4 hA2 hq => ?_) (fun ee A s4 hA2 hq => ?_))
  rotate_left
  · obtain ⟨Is4, Fs4, e5, hv, hrs4, hps4⟩ := hq; cases hv
  obtain ⟨Is4, Fs4, e5, hv, hrs4, hps4⟩ := hq
  cases hv
  rw [← hA2 0 (by decide)]
  rw [← hA2 179 (by decide)]
  rw [← hA2 517 (by decide)]
  have Gs4 := fm_tq F Fs4 rfl rfl
  have JRLx_s4 : RLx s4 := RLx_fm Fs4 (by decide) jR
  have JSEQ_s4 : SEQ s4 := SEQ_fm Fs4 (by decide) jSEQ
  have ws4_12 : iI s4 12 = iI s 12 := fm_iq Fs4 rfl
  have ws4_89 : iI s4 89 = iI s 89 := fm_iq Fs4 rfl
  show WS k 799 [(0, .ref q1), (1, .ref (A 0)), (2, .ref (A 179)), (3, .ref (A 517)), (4, .int (Int32.ofInt i))] [.int (Int32.ofInt e5)] (Wd A dT s4) (ce + 1) (sl + 6)
  refine z_store X (lv' := [(5, .int (Int32.ofInt e5)), (0, .ref q1), (1, .ref (A 0)), (2, .ref (A 179)), (3, .ref (A 517)), (4, .int (Int32.ofInt i))]) rfl (by decide) (fun _ h => h) (z_aload_n X (x := A 179) rfl (List.Mem.tail _ (List.Mem.tail _ (List.Mem.tail _ (List.Mem.head _)))) (z_aload_n X (x := q1) rfl (List.Mem.tail _ (List.Mem.head _)) (z_load X (x := i) rfl (List.Mem.tail _ (List.Mem.tail _ (List.Mem.tail _ (List.Mem.tail _ (List.Mem.tail _ (List.Mem.head _)))))) (z_const X rfl (z_add X rfl (z_sld X S hL rfl (show 0 ≤ (i + 1) ∧ (i + 1) < (L : Int) by first | exact sx_in hi (by decide) | omega) ?_))))))
  have sr6 : rng (sc xs (i + 1)) := sc_rng
  refine z_callV X 179 (rm := rmN 241) (As := [.int (Int32.ofInt (sc xs (i + 1)))]) (st := []) rfl rfl (by decide) rfl (by rw [E.1, E.2.1, E.2.2.1]; exact k_whole G Is4 (by first | exact ⟨sr6.1, sr6.2⟩ | omega)) ⟨by rw [E.2.2.2]; exact (show 9 + 1 ≤ 2048 from oq_1d601463), by rw [E.2.2.2]; exact (show 8 + (2 + 11) + 171 ≤ 84000 from oq_485672f1), by rw [E.2.2.2]; exact (show (ce + 1) + 0 ≤ 601024 by omega), by rw [E.2.2.2]; exact (show (sl + 6) + 0 ≤ 7293034 by omega)⟩ (Nat.le_of_ble_eq_true rfl) (fun vv s7 hq => ?_) (fun ee s7 hq => ?_)
  rotate_left
  · obtain ⟨Is7, Fs7, e8, hv, hrs7, hps7⟩ := hq; cases hv
  obtain ⟨Is7, Fs7, e8, hv, hrs7, hps7⟩ := hq
  cases hv
  have Gs7 := fm_tq Gs4 Fs7 rfl rfl
  have JRLx_s7 : RLx s7 := RLx_fm Fs7 (by decide) JRLx_s4
  have JSEQ_s7 : SEQ s7 := SEQ_fm Fs7 (by decide) JSEQ_s4
  have ws7_12 : iI s7 12 = iI s4 12 := fm_iq Fs7 rfl
  have ws7_89 : iI s7 89 = iI s4 89 := fm_iq Fs7 rfl
  have wos7 : iO s7 = iO s4 := fm_o Fs7 (by decide)
  show WS k 811 [(5, .int (Int32.ofInt e5)), (0, .ref q1), (1, .ref (A 0)), (2, .ref (A 179)), (3, .ref (A 517)), (4, .int (Int32.ofInt i))] [.int (Int32.ofInt e8)] (Wd A dT s7) (ce + 1) (sl + 6)
  refine z_store X (lv' := [(6, .int (Int32.ofInt e8)), (5, .int (Int32.ofInt e5)), (0, .ref q1), (1, .ref (A 0)), (2, .ref (A 179)), (3, .ref (A 517)), (4, .int (Int32.ofInt i))]) rfl (by decide) (fun _ h => h) (z_goto X (t := 1901) rfl rfl (w_widen (ce' := ce + 29) (sl' := sl + 222) (by first | exact Nat.le_add_right _ _ | exact Nat.add_le_add_left (by decide) _ | omega) (by first | exact Nat.le_add_right _ _ | exact Nat.add_le_add_left (by decide) _ | omega) ?_))
  exact WS_lv (lv := [(0, .ref q1), (1, .ref (A 0)), (2, .ref (A 179)), (3, .ref (A 517)), (4, .int (Int32.ofInt i))]) (List.forall_mem_cons.mpr ⟨(List.Mem.tail _ (List.Mem.tail _ (List.Mem.head _))), (List.forall_mem_cons.mpr ⟨(List.Mem.tail _ (List.Mem.tail _ (List.Mem.tail _ (List.Mem.head _)))), (List.forall_mem_cons.mpr ⟨(List.Mem.tail _ (List.Mem.tail _ (List.Mem.tail _ (List.Mem.tail _ (List.Mem.head _))))), (List.forall_mem_cons.mpr ⟨(List.Mem.tail _ (List.Mem.tail _ (List.Mem.tail _ (List.Mem.tail _ (List.Mem.tail _ (List.Mem.head _)))))), (List.forall_mem_cons.mpr ⟨(List.Mem.tail _ (List.Mem.tail _ (List.Mem.tail _ (List.Mem.tail _ (List.Mem.tail _ (List.Mem.tail _ (List.Mem.head _))))))), (fun q h => absurd h List.not_mem_nil)⟩)⟩)⟩)⟩)⟩) (hk A _ Is7 JRLx_s7 JSEQ_s7 (by first | exact oq_f34933ba ws7_89 ws4_89 p1 b2.1 | omega) (by first | exact oq_d7ce4408 ws7_12 ws4_12 p2 | omega))
theorem lc_14 (G : GX l s0 D tys a0 dT) (GR : RS0 s0) (SF : SF0 s0) (GT : TXs0 s0) {k : kx_T} (X : AX k 350 dT) (E : kL k = l ∧ kS0 k = s0 ∧ kD k = D ∧ kR k = room_1) {q1 L : Nat} {xs : Nat → Int32} (S : SX k q1 L xs) (hL : L ≤ 3072) (I : Bd s) (jR : RLx s) (jSEQ : SEQ s) (p1 : iI s 89 = 1) (p2 : iI s 12 ≤ 8) {i : Int} (hi : 0 ≤ i ∧ i + 6 ≤ (L : Int)) {ce sl : Nat} (hce : ce + 29 ≤ 601024) (hsl : sl + 222 ≤ 7293034) (hk : ∀ (A : Nat → Nat) (t : PS), Bd t → RLx t → SEQ t → iI t 89 = 1 → iI t 12 ≤ 8 → WS k 1901 [(0, .ref q1), (1, .ref (A 0)), (2, .ref (A 179)), (3, .ref (A 517)), (4, .int (Int32.ofInt i))] [] (Wd A dT t) (ce + 29) (sl + 222)) : WS k 816 [(0, .ref q1), (1, .ref (A 0)), (2, .ref (A 179)), (3, .ref (A 517)), (4, .int (Int32.ofInt i))] [] (Wd A dT s) ce sl := by
  have F : Fm [73] [1460, 231, 232, 230] s s := fm_rf _ _ s
  have b1 := bi_12 I
  have b2 := bi_89 I
  refine z_aload_n X (x := A 0) rfl (List.Mem.tail _ (List.Mem.head _)) (z_aload_n X (x := q1) rfl (List.Mem.head _) (z_load X (x := i) rfl (List.Mem.tail _ (List.Mem.tail _ (List.Mem.tail _ (List.Mem.tail _ (List.Mem.head _))))) (z_const X rfl (z_add X rfl (z_sld X S hL rfl (show 0 ≤ (i + 1) ∧ (i + 1) < (L : Int) by first | exact sx_in hi (by decide) | omega) ?_)))))
  have sr3 : rng (sc xs (i + 1)) := sc_rng
  refine z_aload_n X (x := q1) rfl (List.Mem.head _) (z_load X (x := i) rfl (List.Mem.tail _ (List.Mem.tail _ (List.Mem.tail _ (List.Mem.tail _ (List.Mem.head _))))) (z_const X rfl (z_add X rfl (z_sld X S hL rfl (show 0 ≤ (i + 2) ∧ (i + 2) < (L : Int) by first | exact sx_in hi (by decide) | omega) ?_))))
  have sr4 : rng (sc xs (i + 2)) := sc_rng
  refine z_aload_n X (x := A 517) rfl (List.Mem.tail _ (List.Mem.tail _ (List.Mem.tail _ (List.Mem.head _)))) (z_callL X (rm := rmN 326) (As := [.ref (A 0), .int (Int32.ofInt (sc xs (i + 1))), .int (Int32.ofInt (sc xs (i + 2))), .ref (A 517)]) (st := []) rfl (by decide) rfl (by rw [E.1, E.2.1, E.2.2.1]; exact lw_neck G I (by omega) (by omega)) ⟨by rw [E.2.2.2]; exact (show 11 + 1 ≤ 2048 by decide), by rw [E.2.2.2]; exact (show 8 + (5 + 11) + 235 ≤ 84000 by decide), by rw [E.2.2.2]; exact (show ce + 1 ≤ 601024 by first | exact rmo_1 hce (by decide) | exact rmo_2 hce (by decide) | omega), by rw [E.2.2.2]; exact (show sl + 6 ≤ 7293034 by first | exact rmo_1 hsl (by decide) | exact rmo_2 hsl (by decide) | omega)⟩ (Nat.le_of_ble_eq_true rfl) (fun vv A s5 hA2 hq => ?_) (fun ee A s5 hA2 hq => ?_))
  rotate_left
  · obtain ⟨Is5, Fs5, e6, hv, hrs5, hps5⟩ := hq; cases hv
  obtain ⟨Is5, Fs5, e6, hv, hrs5, hps5⟩ := hq
  cases hv
  rw [← hA2 0 (by decide)]
  rw [← hA2 179 (by decide)]
  rw [← hA2 517 (by decide)]
  have Gs5 := fm_tq F Fs5 rfl rfl
  have JRLx_s5 : RLx s5 := RLx_fm Fs5 (by decide) jR
  have JSEQ_s5 : SEQ s5 := SEQ_fm Fs5 (by decide) jSEQ
  have ws5_12 : iI s5 12 = iI s 12 := fm_iq Fs5 rfl
  have ws5_89 : iI s5 89 = iI s 89 := fm_iq Fs5 rfl
  show WS k 833 [(0, .ref q1), (1, .ref (A 0)), (2, .ref (A 179)), (3, .ref (A 517)), (4, .int (Int32.ofInt i))] [.int (Int32.ofInt e6)] (Wd A dT s5) (ce + 1) (sl + 6)
  refine z_store X (lv' := [(5, .int (Int32.ofInt e6)), (0, .ref q1), (1, .ref (A 0)), (2, .ref (A 179)), (3, .ref (A 517)), (4, .int (Int32.ofInt i))]) rfl (by decide) (fun _ h => h) (z_aload_n X (x := A 179) rfl (List.Mem.tail _ (List.Mem.tail _ (List.Mem.tail _ (List.Mem.head _)))) (z_aload_n X (x := q1) rfl (List.Mem.tail _ (List.Mem.head _)) (z_load X (x := i) rfl (List.Mem.tail _ (List.Mem.tail _ (List.Mem.tail _ (List.Mem.tail _ (List.Mem.tail _ (List.Mem.head _)))))) (z_const X rfl (z_add X rfl (z_sld X S hL rfl (show 0 ≤ (i + 1) ∧ (i + 1) < (L : Int) by first | exact sx_in hi (by decide) | omega) ?_))))))
  have sr7 : rng (sc xs (i + 1)) := sc_rng
  refine z_aload_n X (x := q1) rfl (List.Mem.tail _ (List.Mem.head _)) (z_load X (x := i) rfl (List.Mem.tail _ (List.Mem.tail _ (List.Mem.tail _ (List.Mem.tail _ (List.Mem.tail _ (List.Mem.head _)))))) (z_const X rfl (z_add X rfl (z_sld X S hL rfl (show 0 ≤ (i + 2) ∧ (i + 2) < (L : Int) by first | exact sx_in hi (by decide) | omega) ?_))))
  have sr8 : rng (sc xs (i + 2)) := sc_rng
  refine z_callV X 179 (rm := rmN 242) (As := [.int (Int32.ofInt (sc xs (i + 1))), .int (Int32.ofInt (sc xs (i + 2)))]) (st := []) rfl rfl (by decide) rfl (by rw [E.1, E.2.1, E.2.2.1]; exact k_neck G Is5 (by first | exact ⟨sr7.1, sr7.2⟩ | omega) (by first | exact ⟨sr8.1, sr8.2⟩ | omega)) ⟨by rw [E.2.2.2]; exact (show 9 + 1 ≤ 2048 from oq_1d601463), by rw [E.2.2.2]; exact (show 8 + (6 + 11) + 171 ≤ 84000 from oq_da2b07c8), by rw [E.2.2.2]; exact (show (ce + 1) + 0 ≤ 601024 by omega), by rw [E.2.2.2]; exact (show (sl + 6) + 0 ≤ 7293034 by omega)⟩ (Nat.le_of_ble_eq_true rfl) (fun vv s9 hq => ?_) (fun ee s9 hq => ?_)
  rotate_left
  · obtain ⟨Is9, Fs9, e10, hv, hrs9, hps9⟩ := hq; cases hv
  obtain ⟨Is9, Fs9, e10, hv, hrs9, hps9⟩ := hq
  cases hv
  have Gs9 := fm_tq Gs5 Fs9 rfl rfl
  have JRLx_s9 : RLx s9 := RLx_fm Fs9 (by decide) JRLx_s5
  have JSEQ_s9 : SEQ s9 := SEQ_fm Fs9 (by decide) JSEQ_s5
  have ws9_12 : iI s9 12 = iI s5 12 := fm_iq Fs9 rfl
  have ws9_89 : iI s9 89 = iI s5 89 := fm_iq Fs9 rfl
  have wos9 : iO s9 = iO s5 := fm_o Fs9 (by decide)
  show WS k 851 [(5, .int (Int32.ofInt e6)), (0, .ref q1), (1, .ref (A 0)), (2, .ref (A 179)), (3, .ref (A 517)), (4, .int (Int32.ofInt i))] [.int (Int32.ofInt e10)] (Wd A dT s9) (ce + 1) (sl + 6)
  refine z_store X (lv' := [(6, .int (Int32.ofInt e10)), (5, .int (Int32.ofInt e6)), (0, .ref q1), (1, .ref (A 0)), (2, .ref (A 179)), (3, .ref (A 517)), (4, .int (Int32.ofInt i))]) rfl (by decide) (fun _ h => h) (z_goto X (t := 1901) rfl rfl (w_widen (ce' := ce + 29) (sl' := sl + 222) (by first | exact Nat.le_add_right _ _ | exact Nat.add_le_add_left (by decide) _ | omega) (by first | exact Nat.le_add_right _ _ | exact Nat.add_le_add_left (by decide) _ | omega) ?_))
  exact WS_lv (lv := [(0, .ref q1), (1, .ref (A 0)), (2, .ref (A 179)), (3, .ref (A 517)), (4, .int (Int32.ofInt i))]) (List.forall_mem_cons.mpr ⟨(List.Mem.tail _ (List.Mem.tail _ (List.Mem.head _))), (List.forall_mem_cons.mpr ⟨(List.Mem.tail _ (List.Mem.tail _ (List.Mem.tail _ (List.Mem.head _)))), (List.forall_mem_cons.mpr ⟨(List.Mem.tail _ (List.Mem.tail _ (List.Mem.tail _ (List.Mem.tail _ (List.Mem.head _))))), (List.forall_mem_cons.mpr ⟨(List.Mem.tail _ (List.Mem.tail _ (List.Mem.tail _ (List.Mem.tail _ (List.Mem.tail _ (List.Mem.head _)))))), (List.forall_mem_cons.mpr ⟨(List.Mem.tail _ (List.Mem.tail _ (List.Mem.tail _ (List.Mem.tail _ (List.Mem.tail _ (List.Mem.tail _ (List.Mem.head _))))))), (fun q h => absurd h List.not_mem_nil)⟩)⟩)⟩)⟩)⟩) (hk A _ Is9 JRLx_s9 JSEQ_s9 (by first | exact oq_f34933ba ws9_89 ws5_89 p1 b2.1 | omega) (by first | exact oq_d7ce4408 ws9_12 ws5_12 p2 | omega))
theorem lc_15 (G : GX l s0 D tys a0 dT) (GR : RS0 s0) (SF : SF0 s0) (GT : TXs0 s0) {k : kx_T} (X : AX k 350 dT) (E : kL k = l ∧ kS0 k = s0 ∧ kD k = D ∧ kR k = room_1) {q1 L : Nat} {xs : Nat → Int32} (S : SX k q1 L xs) (hL : L ≤ 3072) (I : Bd s) (jR : RLx s) (jSEQ : SEQ s) (p1 : iI s 89 = 1) (p2 : iI s 12 ≤ 8) {i : Int} (hi : 0 ≤ i ∧ i + 6 ≤ (L : Int)) {ce sl : Nat} (hce : ce + 29 ≤ 601024) (hsl : sl + 222 ≤ 7293034) (hk : ∀ (A : Nat → Nat) (t : PS), Bd t → RLx t → SEQ t → iI t 89 = 1 → iI t 12 ≤ 8 → WS k 1901 [(0, .ref q1), (1, .ref (A 0)), (2, .ref (A 179)), (3, .ref (A 517)), (4, .int (Int32.ofInt i))] [] (Wd A dT t) (ce + 29) (sl + 222)) : WS k 856 [(0, .ref q1), (1, .ref (A 0)), (2, .ref (A 179)), (3, .ref (A 517)), (4, .int (Int32.ofInt i))] [] (Wd A dT s) ce sl := by
  have F : Fm [73] [1460] s s := fm_rf _ _ s
  have b1 := bi_12 I
  have b2 := bi_89 I
  refine z_aload_n X (x := A 0) rfl (List.Mem.tail _ (List.Mem.head _)) (z_aload_n X (x := q1) rfl (List.Mem.head _) (z_load X (x := i) rfl (List.Mem.tail _ (List.Mem.tail _ (List.Mem.tail _ (List.Mem.tail _ (List.Mem.head _))))) (z_const X rfl (z_add X rfl (z_sld X S hL rfl (show 0 ≤ (i + 1) ∧ (i + 1) < (L : Int) by first | exact sx_in hi (by decide) | omega) ?_)))))
  have sr3 : rng (sc xs (i + 1)) := sc_rng
  refine z_aload_n X (x := A 517) rfl (List.Mem.tail _ (List.Mem.tail _ (List.Mem.tail _ (List.Mem.head _)))) (z_callL X (rm := rmN 327) (As := [.ref (A 0), .int (Int32.ofInt (sc xs (i + 1))), .ref (A 517)]) (st := []) rfl (by decide) rfl (by rw [E.1, E.2.1, E.2.2.1]; exact lw_shorts G I (by omega)) ⟨by rw [E.2.2.2]; exact (show 10 + 1 ≤ 2048 by decide), by rw [E.2.2.2]; exact (show 8 + (4 + 11) + 198 ≤ 84000 by decide), by rw [E.2.2.2]; exact (show ce + 1 ≤ 601024 by first | exact rmo_1 hce (by decide) | exact rmo_2 hce (by decide) | omega), by rw [E.2.2.2]; exact (show sl + 6 ≤ 7293034 by first | exact rmo_1 hsl (by decide) | exact rmo_2 hsl (by decide) | omega)⟩ (Nat.le_of_ble_eq_true rfl) (fun vv A s4 hA2 hq => ?_) (fun ee A s4 hA2 hq => ?_))
  rotate_left
  · obtain ⟨Is4, Fs4, e5, hv, hrs4, hps4⟩ := hq; cases hv
  obtain ⟨Is4, Fs4, e5, hv, hrs4, hps4⟩ := hq
  cases hv
  rw [← hA2 0 (by decide)]
  rw [← hA2 179 (by decide)]
  rw [← hA2 517 (by decide)]
  have Gs4 := fm_tq F Fs4 rfl rfl
  have JRLx_s4 : RLx s4 := RLx_fm Fs4 (by decide) jR
  have JSEQ_s4 : SEQ s4 := SEQ_fm Fs4 (by decide) jSEQ
  have ws4_12 : iI s4 12 = iI s 12 := fm_iq Fs4 rfl
  have ws4_89 : iI s4 89 = iI s 89 := fm_iq Fs4 rfl
  show WS k 867 [(0, .ref q1), (1, .ref (A 0)), (2, .ref (A 179)), (3, .ref (A 517)), (4, .int (Int32.ofInt i))] [.int (Int32.ofInt e5)] (Wd A dT s4) (ce + 1) (sl + 6)
  refine z_store X (lv' := [(5, .int (Int32.ofInt e5)), (0, .ref q1), (1, .ref (A 0)), (2, .ref (A 179)), (3, .ref (A 517)), (4, .int (Int32.ofInt i))]) rfl (by decide) (fun _ h => h) (z_aload_n X (x := A 179) rfl (List.Mem.tail _ (List.Mem.tail _ (List.Mem.tail _ (List.Mem.head _)))) (z_aload_n X (x := q1) rfl (List.Mem.tail _ (List.Mem.head _)) (z_load X (x := i) rfl (List.Mem.tail _ (List.Mem.tail _ (List.Mem.tail _ (List.Mem.tail _ (List.Mem.tail _ (List.Mem.head _)))))) (z_const X rfl (z_add X rfl (z_sld X S hL rfl (show 0 ≤ (i + 1) ∧ (i + 1) < (L : Int) by first | exact sx_in hi (by decide) | omega) ?_))))))
  have sr6 : rng (sc xs (i + 1)) := sc_rng
  refine z_callV X 179 (rm := rmN 243) (As := [.int (Int32.ofInt (sc xs (i + 1)))]) (st := []) rfl rfl (by decide) rfl (by rw [E.1, E.2.1, E.2.2.1]; exact k_shorts G Is4 (by first | exact ⟨sr6.1, sr6.2⟩ | omega)) ⟨by rw [E.2.2.2]; exact (show 7 + 1 ≤ 2048 from oq_4e6106eb), by rw [E.2.2.2]; exact (show 8 + (7 + 11) + 122 ≤ 84000 from oq_f75bb075), by rw [E.2.2.2]; exact (show (ce + 1) + 0 ≤ 601024 by omega), by rw [E.2.2.2]; exact (show (sl + 6) + 0 ≤ 7293034 by omega)⟩ (Nat.le_of_ble_eq_true rfl) (fun vv s7 hq => ?_) (fun ee s7 hq => ?_)
  rotate_left
  · obtain ⟨Is7, Fs7, e8, hv, hrs7, hps7⟩ := hq; cases hv
  obtain ⟨Is7, Fs7, e8, hv, hrs7, hps7⟩ := hq
  cases hv
  have Gs7 := fm_tq Gs4 Fs7 rfl rfl
  have JRLx_s7 : RLx s7 := RLx_fm Fs7 (by decide) JRLx_s4
  have JSEQ_s7 : SEQ s7 := SEQ_fm Fs7 (by decide) JSEQ_s4
  have ws7_12 : iI s7 12 = iI s4 12 := fm_iq Fs7 rfl
  have ws7_89 : iI s7 89 = iI s4 89 := fm_iq Fs7 rfl
  have wos7 : iO s7 = iO s4 := fm_o Fs7 (by decide)
  show WS k 879 [(5, .int (Int32.ofInt e5)), (0, .ref q1), (1, .ref (A 0)), (2, .ref (A 179)), (3, .ref (A 517)), (4, .int (Int32.ofInt i))] [.int (Int32.ofInt e8)] (Wd A dT s7) (ce + 1) (sl + 6)
  refine z_store X (lv' := [(6, .int (Int32.ofInt e8)), (5, .int (Int32.ofInt e5)), (0, .ref q1), (1, .ref (A 0)), (2, .ref (A 179)), (3, .ref (A 517)), (4, .int (Int32.ofInt i))]) rfl (by decide) (fun _ h => h) (z_goto X (t := 1901) rfl rfl (w_widen (ce' := ce + 29) (sl' := sl + 222) (by first | exact Nat.le_add_right _ _ | exact Nat.add_le_add_left (by decide) _ | omega) (by first | exact Nat.le_add_right _ _ | exact Nat.add_le_add_left (by decide) _ | omega) ?_))
  exact WS_lv (lv := [(0, .ref q1), (1, .ref (A 0)), (2, .ref (A 179)), (3, .ref (A 517)), (4, .int (Int32.ofInt i))]) (List.forall_mem_cons.mpr ⟨(List.Mem.tail _ (List.Mem.tail _ (List.Mem.head _))), (List.forall_mem_cons.mpr ⟨(List.Mem.tail _ (List.Mem.tail _ (List.Mem.tail _ (List.Mem.head _)))), (List.forall_mem_cons.mpr ⟨(List.Mem.tail _ (List.Mem.tail _ (List.Mem.tail _ (List.Mem.tail _ (List.Mem.head _))))), (List.forall_mem_cons.mpr ⟨(List.Mem.tail _ (List.Mem.tail _ (List.Mem.tail _ (List.Mem.tail _ (List.Mem.tail _ (List.Mem.head _)))))), (List.forall_mem_cons.mpr ⟨(List.Mem.tail _ (List.Mem.tail _ (List.Mem.tail _ (List.Mem.tail _ (List.Mem.tail _ (List.Mem.tail _ (List.Mem.head _))))))), (fun q h => absurd h List.not_mem_nil)⟩)⟩)⟩)⟩)⟩) (hk A _ Is7 JRLx_s7 JSEQ_s7 (by first | exact oq_f34933ba ws7_89 ws4_89 p1 b2.1 | omega) (by first | exact oq_d7ce4408 ws7_12 ws4_12 p2 | omega))
theorem lc_16 (G : GX l s0 D tys a0 dT) (GR : RS0 s0) (SF : SF0 s0) (GT : TXs0 s0) {k : kx_T} (X : AX k 350 dT) (E : kL k = l ∧ kS0 k = s0 ∧ kD k = D ∧ kR k = room_1) {q1 L : Nat} {xs : Nat → Int32} (S : SX k q1 L xs) (hL : L ≤ 3072) (I : Bd s) (jR : RLx s) (jSEQ : SEQ s) (p1 : iI s 89 = 1) (p2 : iI s 12 ≤ 8) {i : Int} (hi : 0 ≤ i ∧ i + 6 ≤ (L : Int)) {ce sl : Nat} (hce : ce + 29 ≤ 601024) (hsl : sl + 222 ≤ 7293034) (hk : ∀ (A : Nat → Nat) (t : PS), Bd t → RLx t → SEQ t → iI t 89 = 1 → iI t 12 ≤ 8 → WS k 1901 [(0, .ref q1), (1, .ref (A 0)), (2, .ref (A 179)), (3, .ref (A 517)), (4, .int (Int32.ofInt i))] [] (Wd A dT t) (ce + 29) (sl + 222)) : WS k 884 [(0, .ref q1), (1, .ref (A 0)), (2, .ref (A 179)), (3, .ref (A 517)), (4, .int (Int32.ofInt i))] [] (Wd A dT s) ce sl := by
  have F : Fm [21, 73, 95] [1460] s s := fm_rf _ _ s
  have b1 := bi_12 I
  have b2 := bi_89 I
  refine z_aload_n X (x := A 0) rfl (List.Mem.tail _ (List.Mem.head _)) (z_aload_n X (x := q1) rfl (List.Mem.head _) (z_load X (x := i) rfl (List.Mem.tail _ (List.Mem.tail _ (List.Mem.tail _ (List.Mem.tail _ (List.Mem.head _))))) (z_const X rfl (z_add X rfl (z_sld X S hL rfl (show 0 ≤ (i + 1) ∧ (i + 1) < (L : Int) by first | exact sx_in hi (by decide) | omega) ?_)))))
  have sr3 : rng (sc xs (i + 1)) := sc_rng
  refine z_aload_n X (x := A 517) rfl (List.Mem.tail _ (List.Mem.tail _ (List.Mem.tail _ (List.Mem.head _)))) (z_callL X (rm := rmN 328) (As := [.ref (A 0), .int (Int32.ofInt (sc xs (i + 1))), .ref (A 517)]) (st := []) rfl (by decide) rfl (by rw [E.1, E.2.1, E.2.2.1]; exact lw_length G I (by omega)) ⟨by rw [E.2.2.2]; exact (show 8 + 1 ≤ 2048 by decide), by rw [E.2.2.2]; exact (show 8 + (4 + 11) + 145 ≤ 84000 by decide), by rw [E.2.2.2]; exact (show ce + 1 ≤ 601024 by first | exact rmo_1 hce (by decide) | exact rmo_2 hce (by decide) | omega), by rw [E.2.2.2]; exact (show sl + 6 ≤ 7293034 by first | exact rmo_1 hsl (by decide) | exact rmo_2 hsl (by decide) | omega)⟩ (Nat.le_of_ble_eq_true rfl) (fun vv A s4 hA2 hq => ?_) (fun ee A s4 hA2 hq => ?_))
  rotate_left
  · obtain ⟨Is4, Fs4, e5, hv, hrs4, hps4⟩ := hq; cases hv
  obtain ⟨Is4, Fs4, e5, hv, hrs4, hps4⟩ := hq
  cases hv
  rw [← hA2 0 (by decide)]
  rw [← hA2 179 (by decide)]
  rw [← hA2 517 (by decide)]
  have Gs4 := fm_tq F Fs4 rfl rfl
  have JRLx_s4 : RLx s4 := RLx_fm Fs4 (by decide) jR
  have JSEQ_s4 : SEQ s4 := SEQ_fm Fs4 (by decide) jSEQ
  have ws4_12 : iI s4 12 = iI s 12 := fm_iq Fs4 rfl
  have ws4_89 : iI s4 89 = iI s 89 := fm_iq Fs4 rfl
  show WS k 895 [(0, .ref q1), (1, .ref (A 0)), (2, .ref (A 179)), (3, .ref (A 517)), (4, .int (Int32.ofInt i))] [.int (Int32.ofInt e5)] (Wd A dT s4) (ce + 1) (sl + 6)
  refine z_store X (lv' := [(5, .int (Int32.ofInt e5)), (0, .ref q1), (1, .ref (A 0)), (2, .ref (A 179)), (3, .ref (A 517)), (4, .int (Int32.ofInt i))]) rfl (by decide) (fun _ h => h) (z_aload_n X (x := A 179) rfl (List.Mem.tail _ (List.Mem.tail _ (List.Mem.tail _ (List.Mem.head _)))) (z_aload_n X (x := q1) rfl (List.Mem.tail _ (List.Mem.head _)) (z_load X (x := i) rfl (List.Mem.tail _ (List.Mem.tail _ (List.Mem.tail _ (List.Mem.tail _ (List.Mem.tail _ (List.Mem.head _)))))) (z_const X rfl (z_add X rfl (z_sld X S hL rfl (show 0 ≤ (i + 1) ∧ (i + 1) < (L : Int) by first | exact sx_in hi (by decide) | omega) ?_))))))
  have sr6 : rng (sc xs (i + 1)) := sc_rng
  refine z_callV X 179 (rm := rmN 244) (As := [.int (Int32.ofInt (sc xs (i + 1)))]) (st := []) rfl rfl (by decide) rfl (by rw [E.1, E.2.1, E.2.2.1]; exact k_length G Is4 (by first | exact ⟨sr6.1, sr6.2⟩ | omega)) ⟨by rw [E.2.2.2]; exact (show 7 + 1 ≤ 2048 from oq_4e6106eb), by rw [E.2.2.2]; exact (show 8 + (3 + 11) + 122 ≤ 84000 from oq_38d194b9), by rw [E.2.2.2]; exact (show (ce + 1) + 0 ≤ 601024 by omega), by rw [E.2.2.2]; exact (show (sl + 6) + 0 ≤ 7293034 by omega)⟩ (Nat.le_of_ble_eq_true rfl) (fun vv s7 hq => ?_) (fun ee s7 hq => ?_)
  rotate_left
  · obtain ⟨Is7, Fs7, e8, hv, hrs7, hps7⟩ := hq; cases hv
  obtain ⟨Is7, Fs7, e8, hv, hrs7, hps7⟩ := hq
  cases hv
  have Gs7 := fm_tq Gs4 Fs7 rfl rfl
  have JRLx_s7 : RLx s7 := RLx_fm Fs7 (by decide) JRLx_s4
  have JSEQ_s7 : SEQ s7 := SEQ_fm Fs7 (by decide) JSEQ_s4
  have ws7_12 : iI s7 12 = iI s4 12 := fm_iq Fs7 rfl
  have ws7_89 : iI s7 89 = iI s4 89 := fm_iq Fs7 rfl
  have wos7 : iO s7 = iO s4 := fm_o Fs7 (by decide)
  show WS k 907 [(5, .int (Int32.ofInt e5)), (0, .ref q1), (1, .ref (A 0)), (2, .ref (A 179)), (3, .ref (A 517)), (4, .int (Int32.ofInt i))] [.int (Int32.ofInt e8)] (Wd A dT s7) (ce + 1) (sl + 6)
  refine z_store X (lv' := [(6, .int (Int32.ofInt e8)), (5, .int (Int32.ofInt e5)), (0, .ref q1), (1, .ref (A 0)), (2, .ref (A 179)), (3, .ref (A 517)), (4, .int (Int32.ofInt i))]) rfl (by decide) (fun _ h => h) (z_goto X (t := 1901) rfl rfl (w_widen (ce' := ce + 29) (sl' := sl + 222) (by first | exact Nat.le_add_right _ _ | exact Nat.add_le_add_left (by decide) _ | omega) (by first | exact Nat.le_add_right _ _ | exact Nat.add_le_add_left (by decide) _ | omega) ?_))
  exact WS_lv (lv := [(0, .ref q1), (1, .ref (A 0)), (2, .ref (A 179)), (3, .ref (A 517)), (4, .int (Int32.ofInt i))]) (List.forall_mem_cons.mpr ⟨(List.Mem.tail _ (List.Mem.tail _ (List.Mem.head _))), (List.forall_mem_cons.mpr ⟨(List.Mem.tail _ (List.Mem.tail _ (List.Mem.tail _ (List.Mem.head _)))), (List.forall_mem_cons.mpr ⟨(List.Mem.tail _ (List.Mem.tail _ (List.Mem.tail _ (List.Mem.tail _ (List.Mem.head _))))), (List.forall_mem_cons.mpr ⟨(List.Mem.tail _ (List.Mem.tail _ (List.Mem.tail _ (List.Mem.tail _ (List.Mem.tail _ (List.Mem.head _)))))), (List.forall_mem_cons.mpr ⟨(List.Mem.tail _ (List.Mem.tail _ (List.Mem.tail _ (List.Mem.tail _ (List.Mem.tail _ (List.Mem.tail _ (List.Mem.head _))))))), (fun q h => absurd h List.not_mem_nil)⟩)⟩)⟩)⟩)⟩) (hk A _ Is7 JRLx_s7 JSEQ_s7 (by first | exact oq_f34933ba ws7_89 ws4_89 p1 b2.1 | omega) (by first | exact oq_d7ce4408 ws7_12 ws4_12 p2 | omega))
theorem lc_17 (G : GX l s0 D tys a0 dT) (GR : RS0 s0) (SF : SF0 s0) (GT : TXs0 s0) {k : kx_T} (X : AX k 350 dT) (E : kL k = l ∧ kS0 k = s0 ∧ kD k = D ∧ kR k = room_1) {q1 L : Nat} {xs : Nat → Int32} (S : SX k q1 L xs) (hL : L ≤ 3072) (I : Bd s) (jR : RLx s) (jSEQ : SEQ s) (p1 : iI s 89 = 1) (p2 : iI s 12 ≤ 8) {i : Int} (hi : 0 ≤ i ∧ i + 6 ≤ (L : Int)) {ce sl : Nat} (hce : ce + 29 ≤ 601024) (hsl : sl + 222 ≤ 7293034) (hk : ∀ (A : Nat → Nat) (t : PS), Bd t → RLx t → SEQ t → iI t 89 = 1 → iI t 12 ≤ 8 → WS k 1901 [(0, .ref q1), (1, .ref (A 0)), (2, .ref (A 179)), (3, .ref (A 517)), (4, .int (Int32.ofInt i))] [] (Wd A dT t) (ce + 29) (sl + 222)) : WS k 912 [(0, .ref q1), (1, .ref (A 0)), (2, .ref (A 179)), (3, .ref (A 517)), (4, .int (Int32.ofInt i))] [] (Wd A dT s) ce sl := by
  have F : Fm [73] [1460, 202, 204, 205, 206, 207, 208, 209, 210, 211, 212, 213, 214, 215, 216, 217, 218, 219, 220, 221, 222, 223, 224, 225, 226, 227, 203] s s := fm_rf _ _ s
  have b1 := bi_12 I
  have b2 := bi_89 I
  refine z_aload_n X (x := A 0) rfl (List.Mem.tail _ (List.Mem.head _)) (z_aload_n X (x := q1) rfl (List.Mem.head _) (z_load X (x := i) rfl (List.Mem.tail _ (List.Mem.tail _ (List.Mem.tail _ (List.Mem.tail _ (List.Mem.head _))))) (z_const X rfl (z_add X rfl (z_sld X S hL rfl (show 0 ≤ (i + 1) ∧ (i + 1) < (L : Int) by first | exact sx_in hi (by decide) | omega) ?_)))))
  have sr3 : rng (sc xs (i + 1)) := sc_rng
  refine z_aload_n X (x := A 517) rfl (List.Mem.tail _ (List.Mem.tail _ (List.Mem.tail _ (List.Mem.head _)))) (z_callL X (rm := rmN 329) (As := [.ref (A 0), .int (Int32.ofInt (sc xs (i + 1))), .ref (A 517)]) (st := []) rfl (by decide) rfl (by rw [E.1, E.2.1, E.2.2.1]; exact lw_edge G I (by omega)) ⟨by rw [E.2.2.2]; exact (show 9 + 1 ≤ 2048 by decide), by rw [E.2.2.2]; exact (show 8 + (4 + 11) + 173 ≤ 84000 by decide), by rw [E.2.2.2]; exact (show ce + 1 ≤ 601024 by first | exact rmo_1 hce (by decide) | exact rmo_2 hce (by decide) | omega), by rw [E.2.2.2]; exact (show sl + 6 ≤ 7293034 by first | exact rmo_1 hsl (by decide) | exact rmo_2 hsl (by decide) | omega)⟩ (Nat.le_of_ble_eq_true rfl) (fun vv A s4 hA2 hq => ?_) (fun ee A s4 hA2 hq => ?_))
  rotate_left
  · obtain ⟨Is4, Fs4, e5, hv, hrs4, hps4⟩ := hq; cases hv
  obtain ⟨Is4, Fs4, e5, hv, hrs4, hps4⟩ := hq
  cases hv
  rw [← hA2 0 (by decide)]
  rw [← hA2 179 (by decide)]
  rw [← hA2 517 (by decide)]
  have Gs4 := fm_tq F Fs4 rfl rfl
  have JRLx_s4 : RLx s4 := RLx_fm Fs4 (by decide) jR
  have JSEQ_s4 : SEQ s4 := SEQ_fm Fs4 (by decide) jSEQ
  have ws4_12 : iI s4 12 = iI s 12 := fm_iq Fs4 rfl
  have ws4_89 : iI s4 89 = iI s 89 := fm_iq Fs4 rfl
  show WS k 923 [(0, .ref q1), (1, .ref (A 0)), (2, .ref (A 179)), (3, .ref (A 517)), (4, .int (Int32.ofInt i))] [.int (Int32.ofInt e5)] (Wd A dT s4) (ce + 1) (sl + 6)
  refine z_store X (lv' := [(5, .int (Int32.ofInt e5)), (0, .ref q1), (1, .ref (A 0)), (2, .ref (A 179)), (3, .ref (A 517)), (4, .int (Int32.ofInt i))]) rfl (by decide) (fun _ h => h) (z_aload_n X (x := A 179) rfl (List.Mem.tail _ (List.Mem.tail _ (List.Mem.tail _ (List.Mem.head _)))) (z_aload_n X (x := q1) rfl (List.Mem.tail _ (List.Mem.head _)) (z_load X (x := i) rfl (List.Mem.tail _ (List.Mem.tail _ (List.Mem.tail _ (List.Mem.tail _ (List.Mem.tail _ (List.Mem.head _)))))) (z_const X rfl (z_add X rfl (z_sld X S hL rfl (show 0 ≤ (i + 1) ∧ (i + 1) < (L : Int) by first | exact sx_in hi (by decide) | omega) ?_))))))
  have sr6 : rng (sc xs (i + 1)) := sc_rng
  refine z_callV X 179 (rm := rmN 246) (As := [.int (Int32.ofInt (sc xs (i + 1)))]) (st := []) rfl rfl (by decide) rfl (by rw [E.1, E.2.1, E.2.2.1]; exact k_edge G Is4 JRLx_s4 (by first | exact ⟨sr6.1, sr6.2⟩ | omega)) ⟨by rw [E.2.2.2]; exact (show 11 + 1 ≤ 2048 from oq_dd1cdbfa), by rw [E.2.2.2]; exact (show 8 + (6 + 11) + 212 ≤ 84000 from oq_c1432001), by rw [E.2.2.2]; exact (show (ce + 1) + 0 ≤ 601024 by omega), by rw [E.2.2.2]; exact (show (sl + 6) + 0 ≤ 7293034 by omega)⟩ (Nat.le_of_ble_eq_true rfl) (fun vv s7 hq => ?_) (fun ee s7 hq => ?_)
  rotate_left
  · obtain ⟨Is7, Fs7, JRLx_s7, e8, hv, hrs7, hps7⟩ := hq; cases hv
  obtain ⟨Is7, Fs7, JRLx_s7, e8, hv, hrs7, hps7⟩ := hq
  cases hv
  have Gs7 := fm_tq Gs4 Fs7 rfl rfl
  have JRLx_s7 : RLx s7 := RLx_fm Fs7 (by decide) JRLx_s4
  have JSEQ_s7 : SEQ s7 := SEQ_fm Fs7 (by decide) JSEQ_s4
  have ws7_12 : iI s7 12 = iI s4 12 := fm_iq Fs7 rfl
  have ws7_89 : iI s7 89 = iI s4 89 := fm_iq Fs7 rfl
  have wos7 : iO s7 = iO s4 := fm_o Fs7 (by decide)
  show WS k 935 [(5, .int (Int32.ofInt e5)), (0, .ref q1), (1, .ref (A 0)), (2, .ref (A 179)), (3, .ref (A 517)), (4, .int (Int32.ofInt i))] [.int (Int32.ofInt e8)] (Wd A dT s7) (ce + 1) (sl + 6)
  refine z_store X (lv' := [(6, .int (Int32.ofInt e8)), (5, .int (Int32.ofInt e5)), (0, .ref q1), (1, .ref (A 0)), (2, .ref (A 179)), (3, .ref (A 517)), (4, .int (Int32.ofInt i))]) rfl (by decide) (fun _ h => h) (z_goto X (t := 1901) rfl rfl (w_widen (ce' := ce + 29) (sl' := sl + 222) (by first | exact Nat.le_add_right _ _ | exact Nat.add_le_add_left (by decide) _ | omega) (by first | exact Nat.le_add_right _ _ | exact Nat.add_le_add_left (by decide) _ | omega) ?_))
  exact WS_lv (lv := [(0, .ref q1), (1, .ref (A 0)), (2, .ref (A 179)), (3, .ref (A 517)), (4, .int (Int32.ofInt i))]) (List.forall_mem_cons.mpr ⟨(List.Mem.tail _ (List.Mem.tail _ (List.Mem.head _))), (List.forall_mem_cons.mpr ⟨(List.Mem.tail _ (List.Mem.tail _ (List.Mem.tail _ (List.Mem.head _)))), (List.forall_mem_cons.mpr ⟨(List.Mem.tail _ (List.Mem.tail _ (List.Mem.tail _ (List.Mem.tail _ (List.Mem.head _))))), (List.forall_mem_cons.mpr ⟨(List.Mem.tail _ (List.Mem.tail _ (List.Mem.tail _ (List.Mem.tail _ (List.Mem.tail _ (List.Mem.head _)))))), (List.forall_mem_cons.mpr ⟨(List.Mem.tail _ (List.Mem.tail _ (List.Mem.tail _ (List.Mem.tail _ (List.Mem.tail _ (List.Mem.tail _ (List.Mem.head _))))))), (fun q h => absurd h List.not_mem_nil)⟩)⟩)⟩)⟩)⟩) (hk A _ Is7 JRLx_s7 JSEQ_s7 (by first | exact oq_f34933ba ws7_89 ws4_89 p1 b2.1 | omega) (by first | exact oq_d7ce4408 ws7_12 ws4_12 p2 | omega))
theorem lc_18 (G : GX l s0 D tys a0 dT) (GR : RS0 s0) (SF : SF0 s0) (GT : TXs0 s0) {k : kx_T} (X : AX k 350 dT) (E : kL k = l ∧ kS0 k = s0 ∧ kD k = D ∧ kR k = room_1) {q1 L : Nat} {xs : Nat → Int32} (S : SX k q1 L xs) (hL : L ≤ 3072) (I : Bd s) (jR : RLx s) (jSEQ : SEQ s) (p1 : iI s 89 = 1) (p2 : iI s 12 ≤ 8) {i : Int} (hi : 0 ≤ i ∧ i + 6 ≤ (L : Int)) {ce sl : Nat} (hce : ce + 29 ≤ 601024) (hsl : sl + 222 ≤ 7293034) (hk : ∀ (A : Nat → Nat) (t : PS), Bd t → RLx t → SEQ t → iI t 89 = 1 → iI t 12 ≤ 8 → WS k 1901 [(0, .ref q1), (1, .ref (A 0)), (2, .ref (A 179)), (3, .ref (A 517)), (4, .int (Int32.ofInt i))] [] (Wd A dT t) (ce + 29) (sl + 222)) : WS k 940 [(0, .ref q1), (1, .ref (A 0)), (2, .ref (A 179)), (3, .ref (A 517)), (4, .int (Int32.ofInt i))] [] (Wd A dT s) ce sl := by
  have F : Fm [22, 23, 24, 73, 77, 75, 78, 79, 80, 81] [33, 26, 27, 28, 29, 30, 31, 32, 20, 202, 204, 205, 206, 207, 208, 209, 210, 211, 212, 213, 214, 215, 216, 217, 218, 219, 220, 221, 222, 223, 224, 225, 226, 227, 203, 161, 230, 231, 232] s s := fm_rf _ _ s
  have b1 := bi_12 I
  have b2 := bi_89 I
  refine z_aload_n X (x := A 0) rfl (List.Mem.tail _ (List.Mem.head _)) (z_callV X 0 (rm := rmN 153) (As := []) (st := []) rfl rfl (by decide) rfl (by rw [E.1, E.2.1, E.2.2.1]; exact cs_holds G I ) ⟨by rw [E.2.2.2]; exact (show 11 + 1 ≤ 2048 from oq_dd1cdbfa), by rw [E.2.2.2]; exact (show 8 + (2 + 11) + 224 ≤ 84000 from oq_b95bb2bf), by rw [E.2.2.2]; exact (show ce + 0 ≤ 601024 by omega), by rw [E.2.2.2]; exact (show sl + 0 ≤ 7293034 by omega)⟩ (Nat.le_of_ble_eq_true rfl) (fun vv s3 hq => ?_) (fun ee s3 hq => ?_))
  rotate_left
  · obtain ⟨Is3, Fs3, e4, hv, hrs3, hps3⟩ := hq; cases hv
  obtain ⟨Is3, Fs3, e4, hv, hrs3, hps3⟩ := hq
  cases hv
  have Gs3 := fm_tq F Fs3 rfl rfl
  have JRLx_s3 : RLx s3 := RLx_fm Fs3 (by decide) jR
  have JSEQ_s3 : SEQ s3 := SEQ_fm Fs3 (by decide) jSEQ
  have ws3_12 : iI s3 12 = iI s 12 := fm_iq Fs3 rfl
  have ws3_89 : iI s3 89 = iI s 89 := fm_iq Fs3 rfl
  have wos3 : iO s3 = iO s := fm_o Fs3 (by decide)
  show WS k 944 [(0, .ref q1), (1, .ref (A 0)), (2, .ref (A 179)), (3, .ref (A 517)), (4, .int (Int32.ofInt i))] [.int (Int32.ofInt e4)] (Wd A dT s3) ce sl
  refine w_pop X.1 (ax_d X (show cdA 350 944 = some (.pop, 1, 0, 0, 0) from rfl)) rfl (z_aload_n X (x := A 179) rfl (List.Mem.tail _ (List.Mem.tail _ (List.Mem.head _))) (z_callV X 179 (rm := rmN 247) (As := []) (st := []) rfl rfl (by decide) rfl (by rw [E.1, E.2.1, E.2.2.1]; exact k_holds G Is3 JRLx_s3 ) ⟨by rw [E.2.2.2]; exact (show 39 + 1 ≤ 2048 from oq_dead3895), by rw [E.2.2.2]; exact (show 8 + (2 + 11) + 1622 ≤ 84000 from oq_2450e786), by rw [E.2.2.2]; exact (show ce + 0 ≤ 601024 by first | (clear hps3; omega) | omega), by rw [E.2.2.2]; exact (show sl + 0 ≤ 7293034 by first | (clear hps3; omega) | omega)⟩ (Nat.le_of_ble_eq_true rfl) (fun vv s5 hq => ?_) (fun ee s5 hq => ?_)))
  rotate_left
  · obtain ⟨Is5, Fs5, JRLx_s5, e6, hv, hrs5, hps5⟩ := hq; cases hv
  obtain ⟨Is5, Fs5, JRLx_s5, e6, hv, hrs5, hps5⟩ := hq
  cases hv
  have Gs5 := fm_tq Gs3 Fs5 rfl rfl
  have JRLx_s5 : RLx s5 := RLx_fm Fs5 (by decide) JRLx_s3
  have JSEQ_s5 : SEQ s5 := SEQ_fm Fs5 (by decide) JSEQ_s3
  have ws5_12 : iI s5 12 = iI s3 12 := fm_iq Fs5 rfl
  have ws5_89 : iI s5 89 = iI s3 89 := fm_iq Fs5 rfl
  have wos5 : iO s5 = iO s3 := fm_o Fs5 (by decide)
  show WS k 949 [(0, .ref q1), (1, .ref (A 0)), (2, .ref (A 179)), (3, .ref (A 517)), (4, .int (Int32.ofInt i))] [.int (Int32.ofInt e6)] (Wd A dT s5) ce sl
  refine w_pop X.1 (ax_d X (show cdA 350 949 = some (.pop, 1, 0, 0, 0) from rfl)) rfl (z_goto X (t := 1901) rfl rfl (w_widen (ce' := ce + 29) (sl' := sl + 222) (by first | exact Nat.le_add_right _ _ | exact Nat.add_le_add_left (by decide) _ | omega) (by first | exact Nat.le_add_right _ _ | exact Nat.add_le_add_left (by decide) _ | omega) ?_))
  exact WS_lv (lv := [(0, .ref q1), (1, .ref (A 0)), (2, .ref (A 179)), (3, .ref (A 517)), (4, .int (Int32.ofInt i))]) (List.forall_mem_cons.mpr ⟨(List.Mem.head _), (List.forall_mem_cons.mpr ⟨(List.Mem.tail _ (List.Mem.head _)), (List.forall_mem_cons.mpr ⟨(List.Mem.tail _ (List.Mem.tail _ (List.Mem.head _))), (List.forall_mem_cons.mpr ⟨(List.Mem.tail _ (List.Mem.tail _ (List.Mem.tail _ (List.Mem.head _)))), (List.forall_mem_cons.mpr ⟨(List.Mem.tail _ (List.Mem.tail _ (List.Mem.tail _ (List.Mem.tail _ (List.Mem.head _))))), (fun q h => absurd h List.not_mem_nil)⟩)⟩)⟩)⟩)⟩) (hk A _ Is5 JRLx_s5 JSEQ_s5 (by first | exact oq_f34933ba ws5_89 ws3_89 p1 b2.1 | omega) (by first | exact oq_d7ce4408 ws5_12 ws3_12 p2 | omega))
theorem lc_19 (G : GX l s0 D tys a0 dT) (GR : RS0 s0) (SF : SF0 s0) (GT : TXs0 s0) {k : kx_T} (X : AX k 350 dT) (E : kL k = l ∧ kS0 k = s0 ∧ kD k = D ∧ kR k = room_1) {q1 L : Nat} {xs : Nat → Int32} (S : SX k q1 L xs) (hL : L ≤ 3072) (I : Bd s) (jR : RLx s) (jSEQ : SEQ s) (p1 : iI s 89 = 1) (p2 : iI s 12 ≤ 8) {i : Int} (hi : 0 ≤ i ∧ i + 6 ≤ (L : Int)) {ce sl : Nat} (hce : ce + 29 ≤ 601024) (hsl : sl + 222 ≤ 7293034) (hk : ∀ (A : Nat → Nat) (t : PS), Bd t → RLx t → SEQ t → iI t 89 = 1 → iI t 12 ≤ 8 → WS k 1901 [(0, .ref q1), (1, .ref (A 0)), (2, .ref (A 179)), (3, .ref (A 517)), (4, .int (Int32.ofInt i))] [] (Wd A dT t) (ce + 29) (sl + 222)) : WS k 953 [(0, .ref q1), (1, .ref (A 0)), (2, .ref (A 179)), (3, .ref (A 517)), (4, .int (Int32.ofInt i))] [] (Wd A dT s) ce sl := by
  have F : Fm [22, 23, 24, 73, 77, 75, 78, 79, 80, 81] [33, 26, 27, 28, 29, 30, 31, 32, 20, 36, 37, 35, 202, 204, 205, 206, 207, 208, 209, 210, 211, 212, 213, 214, 215, 216, 217, 218, 219, 220, 221, 222, 223, 224, 225, 226, 227, 203, 161, 230, 233] s s := fm_rf _ _ s
  have b1 := bi_12 I
  have b2 := bi_89 I
  refine z_aload_n X (x := A 0) rfl (List.Mem.tail _ (List.Mem.head _)) (z_callV X 0 (rm := rmN 154) (As := []) (st := []) rfl rfl (by decide) rfl (by rw [E.1, E.2.1, E.2.2.1]; exact cs_cost G I ) ⟨by rw [E.2.2.2]; exact (show 12 + 1 ≤ 2048 from oq_f781d9f4), by rw [E.2.2.2]; exact (show 8 + (1 + 11) + 237 ≤ 84000 from oq_d9c24595), by rw [E.2.2.2]; exact (show ce + 0 ≤ 601024 by omega), by rw [E.2.2.2]; exact (show sl + 0 ≤ 7293034 by omega)⟩ (Nat.le_of_ble_eq_true rfl) (fun vv s3 hq => ?_) (fun ee s3 hq => ?_))
  rotate_left
  · obtain ⟨Is3, Fs3, e4, hv, hrs3, hps3⟩ := hq; cases hv
  obtain ⟨Is3, Fs3, e4, hv, hrs3, hps3⟩ := hq
  cases hv
  have Gs3 := fm_tq F Fs3 rfl rfl
  have JRLx_s3 : RLx s3 := RLx_fm Fs3 (by decide) jR
  have JSEQ_s3 : SEQ s3 := SEQ_fm Fs3 (by decide) jSEQ
  have ws3_12 : iI s3 12 = iI s 12 := fm_iq Fs3 rfl
  have ws3_89 : iI s3 89 = iI s 89 := fm_iq Fs3 rfl
  have wos3 : iO s3 = iO s := fm_o Fs3 (by decide)
  show WS k 957 [(0, .ref q1), (1, .ref (A 0)), (2, .ref (A 179)), (3, .ref (A 517)), (4, .int (Int32.ofInt i))] [.int (Int32.ofInt e4)] (Wd A dT s3) ce sl
  refine w_pop X.1 (ax_d X (show cdA 350 957 = some (.pop, 1, 0, 0, 0) from rfl)) rfl (z_aload_n X (x := A 179) rfl (List.Mem.tail _ (List.Mem.tail _ (List.Mem.head _))) (z_callV X 179 (rm := rmN 253) (As := []) (st := []) rfl rfl (by decide) rfl (by rw [E.1, E.2.1, E.2.2.1]; exact k_cost G Is3 JRLx_s3 ) ⟨by rw [E.2.2.2]; exact (show 41 + 1 ≤ 2048 from oq_2c2f0271), by rw [E.2.2.2]; exact (show 8 + (1 + 11) + 1663 ≤ 84000 from oq_260410fd), by rw [E.2.2.2]; exact (show ce + 0 ≤ 601024 by omega), by rw [E.2.2.2]; exact (show sl + 0 ≤ 7293034 by omega)⟩ (Nat.le_of_ble_eq_true rfl) (fun vv s5 hq => ?_) (fun ee s5 hq => ?_)))
  rotate_left
  · obtain ⟨Is5, Fs5, JRLx_s5, e6, hv, hrs5, hps5⟩ := hq; cases hv
  obtain ⟨Is5, Fs5, JRLx_s5, e6, hv, hrs5, hps5⟩ := hq
  cases hv
  have Gs5 := fm_tq Gs3 Fs5 rfl rfl
  have JRLx_s5 : RLx s5 := RLx_fm Fs5 (by decide) JRLx_s3
  have JSEQ_s5 : SEQ s5 := SEQ_fm Fs5 (by decide) JSEQ_s3
  have ws5_12 : iI s5 12 = iI s3 12 := fm_iq Fs5 rfl
  have ws5_89 : iI s5 89 = iI s3 89 := fm_iq Fs5 rfl
  have wos5 : iO s5 = iO s3 := fm_o Fs5 (by decide)
  show WS k 962 [(0, .ref q1), (1, .ref (A 0)), (2, .ref (A 179)), (3, .ref (A 517)), (4, .int (Int32.ofInt i))] [.int (Int32.ofInt e6)] (Wd A dT s5) ce sl
  refine w_pop X.1 (ax_d X (show cdA 350 962 = some (.pop, 1, 0, 0, 0) from rfl)) rfl (z_goto X (t := 1901) rfl rfl (w_widen (ce' := ce + 29) (sl' := sl + 222) (by first | exact Nat.le_add_right _ _ | exact Nat.add_le_add_left (by decide) _ | omega) (by first | exact Nat.le_add_right _ _ | exact Nat.add_le_add_left (by decide) _ | omega) ?_))
  exact WS_lv (lv := [(0, .ref q1), (1, .ref (A 0)), (2, .ref (A 179)), (3, .ref (A 517)), (4, .int (Int32.ofInt i))]) (List.forall_mem_cons.mpr ⟨(List.Mem.head _), (List.forall_mem_cons.mpr ⟨(List.Mem.tail _ (List.Mem.head _)), (List.forall_mem_cons.mpr ⟨(List.Mem.tail _ (List.Mem.tail _ (List.Mem.head _))), (List.forall_mem_cons.mpr ⟨(List.Mem.tail _ (List.Mem.tail _ (List.Mem.tail _ (List.Mem.head _)))), (List.forall_mem_cons.mpr ⟨(List.Mem.tail _ (List.Mem.tail _ (List.Mem.tail _ (List.Mem.tail _ (List.Mem.head _))))), (fun q h => absurd h List.not_mem_nil)⟩)⟩)⟩)⟩)⟩) (hk A _ Is5 JRLx_s5 JSEQ_s5 (by first | exact oq_f34933ba ws5_89 ws3_89 p1 b2.1 | omega) (by first | exact oq_d7ce4408 ws5_12 ws3_12 p2 | omega))
theorem lc_20 (G : GX l s0 D tys a0 dT) (GR : RS0 s0) (SF : SF0 s0) (GT : TXs0 s0) {k : kx_T} (X : AX k 350 dT) (E : kL k = l ∧ kS0 k = s0 ∧ kD k = D ∧ kR k = room_1) {q1 L : Nat} {xs : Nat → Int32} (S : SX k q1 L xs) (hL : L ≤ 3072) (I : Bd s) (jR : RLx s) (jSEQ : SEQ s) (p1 : iI s 89 = 1) (p2 : iI s 12 ≤ 8) {i : Int} (hi : 0 ≤ i ∧ i + 6 ≤ (L : Int)) {ce sl : Nat} (hce : ce + 29 ≤ 601024) (hsl : sl + 222 ≤ 7293034) (hk : ∀ (A : Nat → Nat) (t : PS), Bd t → RLx t → SEQ t → iI t 89 = 1 → iI t 12 ≤ 8 → WS k 1901 [(0, .ref q1), (1, .ref (A 0)), (2, .ref (A 179)), (3, .ref (A 517)), (4, .int (Int32.ofInt i))] [] (Wd A dT t) (ce + 29) (sl + 222)) : WS k 966 [(0, .ref q1), (1, .ref (A 0)), (2, .ref (A 179)), (3, .ref (A 517)), (4, .int (Int32.ofInt i))] [] (Wd A dT s) ce sl := by
  have F : Fm [22, 23, 24, 25, 26, 27, 73, 77, 75, 78, 79, 80, 81, 92, 93, 94] [33, 26, 27, 28, 29, 30, 31, 32, 20, 36, 37, 21, 35, 38, 1022, 1023, 1460, 202, 204, 205, 206, 207, 208, 209, 210, 211, 212, 213, 214, 215, 216, 217, 218, 219, 220, 221, 222, 223, 224, 225, 226, 227, 203, 161, 230, 233, 231, 232, 228] s s := fm_rf _ _ s
  have b1 := bi_12 I
  have b2 := bi_89 I
  refine z_aload_n X (x := A 0) rfl (List.Mem.tail _ (List.Mem.head _)) (z_aload_n X (x := q1) rfl (List.Mem.head _) (z_load X (x := i) rfl (List.Mem.tail _ (List.Mem.tail _ (List.Mem.tail _ (List.Mem.tail _ (List.Mem.head _))))) (z_const X rfl (z_add X rfl (z_sld X S hL rfl (show 0 ≤ (i + 1) ∧ (i + 1) < (L : Int) by first | exact sx_in hi (by decide) | omega) ?_)))))
  have sr3 : rng (sc xs (i + 1)) := sc_rng
  refine z_aload_n X (x := A 517) rfl (List.Mem.tail _ (List.Mem.tail _ (List.Mem.tail _ (List.Mem.head _)))) (z_callL X (rm := rmN 330) (As := [.ref (A 0), .int (Int32.ofInt (sc xs (i + 1))), .ref (A 517)]) (st := []) rfl (by decide) rfl (by rw [E.1, E.2.1, E.2.2.1]; exact lw_better G I (by omega)) ⟨by rw [E.2.2.2]; exact (show 14 + 1 ≤ 2048 by decide), by rw [E.2.2.2]; exact (show 8 + (4 + 11) + 289 ≤ 84000 by decide), by rw [E.2.2.2]; exact (show ce + 1 ≤ 601024 by first | exact rmo_1 hce (by decide) | exact rmo_2 hce (by decide) | omega), by rw [E.2.2.2]; exact (show sl + 6 ≤ 7293034 by first | exact rmo_1 hsl (by decide) | exact rmo_2 hsl (by decide) | omega)⟩ (Nat.le_of_ble_eq_true rfl) (fun vv A s4 hA2 hq => ?_) (fun ee A s4 hA2 hq => ?_))
  rotate_left
  · obtain ⟨Is4, Fs4, e5, hv, hrs4, hps4⟩ := hq; cases hv
  obtain ⟨Is4, Fs4, e5, hv, hrs4, hps4⟩ := hq
  cases hv
  rw [← hA2 0 (by decide)]
  rw [← hA2 179 (by decide)]
  rw [← hA2 517 (by decide)]
  have Gs4 := fm_tq F Fs4 rfl rfl
  have JRLx_s4 : RLx s4 := RLx_fm Fs4 (by decide) jR
  have JSEQ_s4 : SEQ s4 := SEQ_fm Fs4 (by decide) jSEQ
  have ws4_12 : iI s4 12 = iI s 12 := fm_iq Fs4 rfl
  have ws4_89 : iI s4 89 = iI s 89 := fm_iq Fs4 rfl
  show WS k 977 [(0, .ref q1), (1, .ref (A 0)), (2, .ref (A 179)), (3, .ref (A 517)), (4, .int (Int32.ofInt i))] [.int (Int32.ofInt e5)] (Wd A dT s4) (ce + 1) (sl + 6)
  refine z_store X (lv' := [(5, .int (Int32.ofInt e5)), (0, .ref q1), (1, .ref (A 0)), (2, .ref (A 179)), (3, .ref (A 517)), (4, .int (Int32.ofInt i))]) rfl (by decide) (fun _ h => h) (z_aload_n X (x := A 179) rfl (List.Mem.tail _ (List.Mem.tail _ (List.Mem.tail _ (List.Mem.head _)))) (z_aload_n X (x := q1) rfl (List.Mem.tail _ (List.Mem.head _)) (z_load X (x := i) rfl (List.Mem.tail _ (List.Mem.tail _ (List.Mem.tail _ (List.Mem.tail _ (List.Mem.tail _ (List.Mem.head _)))))) (z_const X rfl (z_add X rfl (z_sld X S hL rfl (show 0 ≤ (i + 1) ∧ (i + 1) < (L : Int) by first | exact sx_in hi (by decide) | omega) ?_))))))
  have sr6 : rng (sc xs (i + 1)) := sc_rng
  refine z_callV X 179 (rm := rmN 256) (As := [.int (Int32.ofInt (sc xs (i + 1)))]) (st := []) rfl rfl (by decide) rfl (by rw [E.1, E.2.1, E.2.2.1]; exact k_better G Is4 JRLx_s4 (by first | exact ⟨sr6.1, sr6.2⟩ | omega)) ⟨by rw [E.2.2.2]; exact (show 42 + 1 ≤ 2048 from oq_38aede7b), by rw [E.2.2.2]; exact (show 8 + (2 + 11) + 1687 ≤ 84000 from oq_b5fdcedd), by rw [E.2.2.2]; exact (show (ce + 1) + 0 ≤ 601024 by omega), by rw [E.2.2.2]; exact (show (sl + 6) + 0 ≤ 7293034 by omega)⟩ (Nat.le_of_ble_eq_true rfl) (fun vv s7 hq => ?_) (fun ee s7 hq => ?_)
  rotate_left
  · obtain ⟨Is7, Fs7, JRLx_s7, e8, hv, hrs7, hps7⟩ := hq; cases hv
  obtain ⟨Is7, Fs7, JRLx_s7, e8, hv, hrs7, hps7⟩ := hq
  cases hv
  have Gs7 := fm_tq Gs4 Fs7 rfl rfl
  have JRLx_s7 : RLx s7 := RLx_fm Fs7 (by decide) JRLx_s4
  have JSEQ_s7 : SEQ s7 := SEQ_fm Fs7 (by decide) JSEQ_s4
  have ws7_12 : iI s7 12 = iI s4 12 := fm_iq Fs7 rfl
  have ws7_89 : iI s7 89 = iI s4 89 := fm_iq Fs7 rfl
  have wos7 : iO s7 = iO s4 := fm_o Fs7 (by decide)
  show WS k 989 [(5, .int (Int32.ofInt e5)), (0, .ref q1), (1, .ref (A 0)), (2, .ref (A 179)), (3, .ref (A 517)), (4, .int (Int32.ofInt i))] [.int (Int32.ofInt e8)] (Wd A dT s7) (ce + 1) (sl + 6)
  refine z_store X (lv' := [(6, .int (Int32.ofInt e8)), (5, .int (Int32.ofInt e5)), (0, .ref q1), (1, .ref (A 0)), (2, .ref (A 179)), (3, .ref (A 517)), (4, .int (Int32.ofInt i))]) rfl (by decide) (fun _ h => h) (z_goto X (t := 1901) rfl rfl (w_widen (ce' := ce + 29) (sl' := sl + 222) (by first | exact Nat.le_add_right _ _ | exact Nat.add_le_add_left (by decide) _ | omega) (by first | exact Nat.le_add_right _ _ | exact Nat.add_le_add_left (by decide) _ | omega) ?_))
  exact WS_lv (lv := [(0, .ref q1), (1, .ref (A 0)), (2, .ref (A 179)), (3, .ref (A 517)), (4, .int (Int32.ofInt i))]) (List.forall_mem_cons.mpr ⟨(List.Mem.tail _ (List.Mem.tail _ (List.Mem.head _))), (List.forall_mem_cons.mpr ⟨(List.Mem.tail _ (List.Mem.tail _ (List.Mem.tail _ (List.Mem.head _)))), (List.forall_mem_cons.mpr ⟨(List.Mem.tail _ (List.Mem.tail _ (List.Mem.tail _ (List.Mem.tail _ (List.Mem.head _))))), (List.forall_mem_cons.mpr ⟨(List.Mem.tail _ (List.Mem.tail _ (List.Mem.tail _ (List.Mem.tail _ (List.Mem.tail _ (List.Mem.head _)))))), (List.forall_mem_cons.mpr ⟨(List.Mem.tail _ (List.Mem.tail _ (List.Mem.tail _ (List.Mem.tail _ (List.Mem.tail _ (List.Mem.tail _ (List.Mem.head _))))))), (fun q h => absurd h List.not_mem_nil)⟩)⟩)⟩)⟩)⟩) (hk A _ Is7 JRLx_s7 JSEQ_s7 (by first | exact oq_f34933ba ws7_89 ws4_89 p1 b2.1 | omega) (by first | exact oq_d7ce4408 ws7_12 ws4_12 p2 | omega))
theorem lc_21 (G : GX l s0 D tys a0 dT) (GR : RS0 s0) (SF : SF0 s0) (GT : TXs0 s0) {k : kx_T} (X : AX k 350 dT) (E : kL k = l ∧ kS0 k = s0 ∧ kD k = D ∧ kR k = room_1) {q1 L : Nat} {xs : Nat → Int32} (S : SX k q1 L xs) (hL : L ≤ 3072) (I : Bd s) (jR : RLx s) (jSEQ : SEQ s) (p1 : iI s 89 = 1) (p2 : iI s 12 ≤ 8) {i : Int} (hi : 0 ≤ i ∧ i + 6 ≤ (L : Int)) {ce sl : Nat} (hce : ce + 29 ≤ 601024) (hsl : sl + 222 ≤ 7293034) (hk : ∀ (A : Nat → Nat) (t : PS), Bd t → RLx t → SEQ t → iI t 89 = 1 → iI t 12 ≤ 8 → WS k 1901 [(0, .ref q1), (1, .ref (A 0)), (2, .ref (A 179)), (3, .ref (A 517)), (4, .int (Int32.ofInt i))] [] (Wd A dT t) (ce + 29) (sl + 222)) : WS k 994 [(0, .ref q1), (1, .ref (A 0)), (2, .ref (A 179)), (3, .ref (A 517)), (4, .int (Int32.ofInt i))] [] (Wd A dT s) ce sl := by
  have F : Fm [22, 23, 24, 25, 26, 27, 73, 77, 75, 78, 79, 80, 81, 92, 93, 94] [33, 26, 27, 28, 29, 30, 31, 32, 20, 36, 37, 21, 35, 38, 1022, 1023, 1460, 202, 204, 205, 206, 207, 208, 209, 210, 211, 212, 213, 214, 215, 216, 217, 218, 219, 220, 221, 222, 223, 224, 225, 226, 227, 203, 161, 230, 233, 231, 232, 228] s s := fm_rf _ _ s
  have b1 := bi_12 I
  have b2 := bi_89 I
  refine z_aload_n X (x := A 0) rfl (List.Mem.tail _ (List.Mem.head _)) (z_aload_n X (x := q1) rfl (List.Mem.head _) (z_load X (x := i) rfl (List.Mem.tail _ (List.Mem.tail _ (List.Mem.tail _ (List.Mem.tail _ (List.Mem.head _))))) (z_const X rfl (z_add X rfl (z_sld X S hL rfl (show 0 ≤ (i + 1) ∧ (i + 1) < (L : Int) by first | exact sx_in hi (by decide) | omega) ?_)))))
  have sr3 : rng (sc xs (i + 1)) := sc_rng
  refine z_aload_n X (x := A 517) rfl (List.Mem.tail _ (List.Mem.tail _ (List.Mem.tail _ (List.Mem.head _)))) (z_callL X (rm := rmN 331) (As := [.ref (A 0), .int (Int32.ofInt (sc xs (i + 1))), .ref (A 517)]) (st := []) rfl (by decide) rfl (by rw [E.1, E.2.1, E.2.2.1]; exact lw_grow G I (by omega)) ⟨by rw [E.2.2.2]; exact (show 14 + 1 ≤ 2048 by decide), by rw [E.2.2.2]; exact (show 8 + (4 + 11) + 290 ≤ 84000 by decide), by rw [E.2.2.2]; exact (show ce + 1 ≤ 601024 by first | exact rmo_1 hce (by decide) | exact rmo_2 hce (by decide) | omega), by rw [E.2.2.2]; exact (show sl + 6 ≤ 7293034 by first | exact rmo_1 hsl (by decide) | exact rmo_2 hsl (by decide) | omega)⟩ (Nat.le_of_ble_eq_true rfl) (fun vv A s4 hA2 hq => ?_) (fun ee A s4 hA2 hq => ?_))
  rotate_left
  · obtain ⟨Is4, Fs4, e5, hv, hrs4, hps4⟩ := hq; cases hv
  obtain ⟨Is4, Fs4, e5, hv, hrs4, hps4⟩ := hq
  cases hv
  rw [← hA2 0 (by decide)]
  rw [← hA2 179 (by decide)]
  rw [← hA2 517 (by decide)]
  have Gs4 := fm_tq F Fs4 rfl rfl
  have JRLx_s4 : RLx s4 := RLx_fm Fs4 (by decide) jR
  have JSEQ_s4 : SEQ s4 := SEQ_fm Fs4 (by decide) jSEQ
  have ws4_12 : iI s4 12 = iI s 12 := fm_iq Fs4 rfl
  have ws4_89 : iI s4 89 = iI s 89 := fm_iq Fs4 rfl
  show WS k 1005 [(0, .ref q1), (1, .ref (A 0)), (2, .ref (A 179)), (3, .ref (A 517)), (4, .int (Int32.ofInt i))] [.int (Int32.ofInt e5)] (Wd A dT s4) (ce + 1) (sl + 6)
  refine z_store X (lv' := [(5, .int (Int32.ofInt e5)), (0, .ref q1), (1, .ref (A 0)), (2, .ref (A 179)), (3, .ref (A 517)), (4, .int (Int32.ofInt i))]) rfl (by decide) (fun _ h => h) (z_aload_n X (x := A 179) rfl (List.Mem.tail _ (List.Mem.tail _ (List.Mem.tail _ (List.Mem.head _)))) (z_aload_n X (x := q1) rfl (List.Mem.tail _ (List.Mem.head _)) (z_load X (x := i) rfl (List.Mem.tail _ (List.Mem.tail _ (List.Mem.tail _ (List.Mem.tail _ (List.Mem.tail _ (List.Mem.head _)))))) (z_const X rfl (z_add X rfl (z_sld X S hL rfl (show 0 ≤ (i + 1) ∧ (i + 1) < (L : Int) by first | exact sx_in hi (by decide) | omega) ?_))))))
  have sr6 : rng (sc xs (i + 1)) := sc_rng
  refine z_callV X 179 (rm := rmN 257) (As := [.int (Int32.ofInt (sc xs (i + 1)))]) (st := []) rfl rfl (by decide) rfl (by rw [E.1, E.2.1, E.2.2.1]; exact k_grow G Is4 JRLx_s4 (by first | exact ⟨sr6.1, sr6.2⟩ | omega)) ⟨by rw [E.2.2.2]; exact (show 42 + 1 ≤ 2048 from oq_38aede7b), by rw [E.2.2.2]; exact (show 8 + (3 + 11) + 1687 ≤ 84000 from oq_e190c71b), by rw [E.2.2.2]; exact (show (ce + 1) + 0 ≤ 601024 by omega), by rw [E.2.2.2]; exact (show (sl + 6) + 0 ≤ 7293034 by omega)⟩ (Nat.le_of_ble_eq_true rfl) (fun vv s7 hq => ?_) (fun ee s7 hq => ?_)
  rotate_left
  · obtain ⟨Is7, Fs7, JRLx_s7, e8, hv, hrs7, hps7⟩ := hq; cases hv
  obtain ⟨Is7, Fs7, JRLx_s7, e8, hv, hrs7, hps7⟩ := hq
  cases hv
  have Gs7 := fm_tq Gs4 Fs7 rfl rfl
  have JRLx_s7 : RLx s7 := RLx_fm Fs7 (by decide) JRLx_s4
  have JSEQ_s7 : SEQ s7 := SEQ_fm Fs7 (by decide) JSEQ_s4
  have ws7_12 : iI s7 12 = iI s4 12 := fm_iq Fs7 rfl
  have ws7_89 : iI s7 89 = iI s4 89 := fm_iq Fs7 rfl
  have wos7 : iO s7 = iO s4 := fm_o Fs7 (by decide)
  show WS k 1017 [(5, .int (Int32.ofInt e5)), (0, .ref q1), (1, .ref (A 0)), (2, .ref (A 179)), (3, .ref (A 517)), (4, .int (Int32.ofInt i))] [.int (Int32.ofInt e8)] (Wd A dT s7) (ce + 1) (sl + 6)
  refine z_store X (lv' := [(6, .int (Int32.ofInt e8)), (5, .int (Int32.ofInt e5)), (0, .ref q1), (1, .ref (A 0)), (2, .ref (A 179)), (3, .ref (A 517)), (4, .int (Int32.ofInt i))]) rfl (by decide) (fun _ h => h) (z_goto X (t := 1901) rfl rfl (w_widen (ce' := ce + 29) (sl' := sl + 222) (by first | exact Nat.le_add_right _ _ | exact Nat.add_le_add_left (by decide) _ | omega) (by first | exact Nat.le_add_right _ _ | exact Nat.add_le_add_left (by decide) _ | omega) ?_))
  exact WS_lv (lv := [(0, .ref q1), (1, .ref (A 0)), (2, .ref (A 179)), (3, .ref (A 517)), (4, .int (Int32.ofInt i))]) (List.forall_mem_cons.mpr ⟨(List.Mem.tail _ (List.Mem.tail _ (List.Mem.head _))), (List.forall_mem_cons.mpr ⟨(List.Mem.tail _ (List.Mem.tail _ (List.Mem.tail _ (List.Mem.head _)))), (List.forall_mem_cons.mpr ⟨(List.Mem.tail _ (List.Mem.tail _ (List.Mem.tail _ (List.Mem.tail _ (List.Mem.head _))))), (List.forall_mem_cons.mpr ⟨(List.Mem.tail _ (List.Mem.tail _ (List.Mem.tail _ (List.Mem.tail _ (List.Mem.tail _ (List.Mem.head _)))))), (List.forall_mem_cons.mpr ⟨(List.Mem.tail _ (List.Mem.tail _ (List.Mem.tail _ (List.Mem.tail _ (List.Mem.tail _ (List.Mem.tail _ (List.Mem.head _))))))), (fun q h => absurd h List.not_mem_nil)⟩)⟩)⟩)⟩)⟩) (hk A _ Is7 JRLx_s7 JSEQ_s7 (by first | exact oq_f34933ba ws7_89 ws4_89 p1 b2.1 | omega) (by first | exact oq_d7ce4408 ws7_12 ws4_12 p2 | omega))
theorem lc_22 (G : GX l s0 D tys a0 dT) (GR : RS0 s0) (SF : SF0 s0) (GT : TXs0 s0) {k : kx_T} (X : AX k 350 dT) (E : kL k = l ∧ kS0 k = s0 ∧ kD k = D ∧ kR k = room_1) {q1 L : Nat} {xs : Nat → Int32} (S : SX k q1 L xs) (hL : L ≤ 3072) (I : Bd s) (jR : RLx s) (jSEQ : SEQ s) (p1 : iI s 89 = 1) (p2 : iI s 12 ≤ 8) {i : Int} (hi : 0 ≤ i ∧ i + 6 ≤ (L : Int)) {ce sl : Nat} (hce : ce + 29 ≤ 601024) (hsl : sl + 222 ≤ 7293034) (hk : ∀ (A : Nat → Nat) (t : PS), Bd t → RLx t → SEQ t → iI t 89 = 1 → iI t 12 ≤ 8 → WS k 1901 [(0, .ref q1), (1, .ref (A 0)), (2, .ref (A 179)), (3, .ref (A 517)), (4, .int (Int32.ofInt i))] [] (Wd A dT t) (ce + 29) (sl + 222)) : WS k 1022 [(0, .ref q1), (1, .ref (A 0)), (2, .ref (A 179)), (3, .ref (A 517)), (4, .int (Int32.ofInt i))] [] (Wd A dT s) ce sl := by
  have F : Fm [28, 73, 97] [39, 1460, 234] s s := fm_rf _ _ s
  have b1 := bi_12 I
  have b2 := bi_89 I
  refine z_aload_n X (x := A 0) rfl (List.Mem.tail _ (List.Mem.head _)) (z_aload_n X (x := q1) rfl (List.Mem.head _) (z_load X (x := i) rfl (List.Mem.tail _ (List.Mem.tail _ (List.Mem.tail _ (List.Mem.tail _ (List.Mem.head _))))) (z_const X rfl (z_add X rfl (z_sld X S hL rfl (show 0 ≤ (i + 1) ∧ (i + 1) < (L : Int) by first | exact sx_in hi (by decide) | omega) ?_)))))
  have sr3 : rng (sc xs (i + 1)) := sc_rng
  refine z_aload_n X (x := A 517) rfl (List.Mem.tail _ (List.Mem.tail _ (List.Mem.tail _ (List.Mem.head _)))) (z_callL X (rm := rmN 332) (As := [.ref (A 0), .int (Int32.ofInt (sc xs (i + 1))), .ref (A 517)]) (st := []) rfl (by decide) rfl (by rw [E.1, E.2.1, E.2.2.1]; exact lw_region G I (by omega)) ⟨by rw [E.2.2.2]; exact (show 8 + 1 ≤ 2048 by decide), by rw [E.2.2.2]; exact (show 8 + (4 + 11) + 143 ≤ 84000 by decide), by rw [E.2.2.2]; exact (show ce + 1 ≤ 601024 by first | exact rmo_1 hce (by decide) | exact rmo_2 hce (by decide) | omega), by rw [E.2.2.2]; exact (show sl + 6 ≤ 7293034 by first | exact rmo_1 hsl (by decide) | exact rmo_2 hsl (by decide) | omega)⟩ (Nat.le_of_ble_eq_true rfl) (fun vv A s4 hA2 hq => ?_) (fun ee A s4 hA2 hq => ?_))
  rotate_left
  · obtain ⟨Is4, Fs4, e5, hv, hrs4, hps4⟩ := hq; cases hv
  obtain ⟨Is4, Fs4, e5, hv, hrs4, hps4⟩ := hq
  cases hv
  rw [← hA2 0 (by decide)]
  rw [← hA2 179 (by decide)]
  rw [← hA2 517 (by decide)]
  have Gs4 := fm_tq F Fs4 rfl rfl
  have JRLx_s4 : RLx s4 := RLx_fm Fs4 (by decide) jR
  have JSEQ_s4 : SEQ s4 := SEQ_fm Fs4 (by decide) jSEQ
  have ws4_12 : iI s4 12 = iI s 12 := fm_iq Fs4 rfl
  have ws4_89 : iI s4 89 = iI s 89 := fm_iq Fs4 rfl
  show WS k 1033 [(0, .ref q1), (1, .ref (A 0)), (2, .ref (A 179)), (3, .ref (A 517)), (4, .int (Int32.ofInt i))] [.int (Int32.ofInt e5)] (Wd A dT s4) (ce + 1) (sl + 6)
  refine z_store X (lv' := [(5, .int (Int32.ofInt e5)), (0, .ref q1), (1, .ref (A 0)), (2, .ref (A 179)), (3, .ref (A 517)), (4, .int (Int32.ofInt i))]) rfl (by decide) (fun _ h => h) (z_aload_n X (x := A 179) rfl (List.Mem.tail _ (List.Mem.tail _ (List.Mem.tail _ (List.Mem.head _)))) (z_aload_n X (x := q1) rfl (List.Mem.tail _ (List.Mem.head _)) (z_load X (x := i) rfl (List.Mem.tail _ (List.Mem.tail _ (List.Mem.tail _ (List.Mem.tail _ (List.Mem.tail _ (List.Mem.head _)))))) (z_const X rfl (z_add X rfl (z_sld X S hL rfl (show 0 ≤ (i + 1) ∧ (i + 1) < (L : Int) by first | exact sx_in hi (by decide) | omega) ?_))))))
  have sr6 : rng (sc xs (i + 1)) := sc_rng
  refine z_callV X 179 (rm := rmN 258) (As := [.int (Int32.ofInt (sc xs (i + 1)))]) (st := []) rfl rfl (by decide) rfl (by rw [E.1, E.2.1, E.2.2.1]; exact k_region G Is4 (by first | exact ⟨sr6.1, sr6.2⟩ | omega)) ⟨by rw [E.2.2.2]; exact (show 7 + 1 ≤ 2048 from oq_4e6106eb), by rw [E.2.2.2]; exact (show 8 + (3 + 11) + 122 ≤ 84000 from oq_38d194b9), by rw [E.2.2.2]; exact (show (ce + 1) + 0 ≤ 601024 by omega), by rw [E.2.2.2]; exact (show (sl + 6) + 0 ≤ 7293034 by omega)⟩ (Nat.le_of_ble_eq_true rfl) (fun vv s7 hq => ?_) (fun ee s7 hq => ?_)
  rotate_left
  · obtain ⟨Is7, Fs7, e8, hv, hrs7, hps7⟩ := hq; cases hv
  obtain ⟨Is7, Fs7, e8, hv, hrs7, hps7⟩ := hq
  cases hv
  have Gs7 := fm_tq Gs4 Fs7 rfl rfl
  have JRLx_s7 : RLx s7 := RLx_fm Fs7 (by decide) JRLx_s4
  have JSEQ_s7 : SEQ s7 := SEQ_fm Fs7 (by decide) JSEQ_s4
  have ws7_12 : iI s7 12 = iI s4 12 := fm_iq Fs7 rfl
  have ws7_89 : iI s7 89 = iI s4 89 := fm_iq Fs7 rfl
  have wos7 : iO s7 = iO s4 := fm_o Fs7 (by decide)
  show WS k 1045 [(5, .int (Int32.ofInt e5)), (0, .ref q1), (1, .ref (A 0)), (2, .ref (A 179)), (3, .ref (A 517)), (4, .int (Int32.ofInt i))] [.int (Int32.ofInt e8)] (Wd A dT s7) (ce + 1) (sl + 6)
  refine z_store X (lv' := [(6, .int (Int32.ofInt e8)), (5, .int (Int32.ofInt e5)), (0, .ref q1), (1, .ref (A 0)), (2, .ref (A 179)), (3, .ref (A 517)), (4, .int (Int32.ofInt i))]) rfl (by decide) (fun _ h => h) (z_goto X (t := 1901) rfl rfl (w_widen (ce' := ce + 29) (sl' := sl + 222) (by first | exact Nat.le_add_right _ _ | exact Nat.add_le_add_left (by decide) _ | omega) (by first | exact Nat.le_add_right _ _ | exact Nat.add_le_add_left (by decide) _ | omega) ?_))
  exact WS_lv (lv := [(0, .ref q1), (1, .ref (A 0)), (2, .ref (A 179)), (3, .ref (A 517)), (4, .int (Int32.ofInt i))]) (List.forall_mem_cons.mpr ⟨(List.Mem.tail _ (List.Mem.tail _ (List.Mem.head _))), (List.forall_mem_cons.mpr ⟨(List.Mem.tail _ (List.Mem.tail _ (List.Mem.tail _ (List.Mem.head _)))), (List.forall_mem_cons.mpr ⟨(List.Mem.tail _ (List.Mem.tail _ (List.Mem.tail _ (List.Mem.tail _ (List.Mem.head _))))), (List.forall_mem_cons.mpr ⟨(List.Mem.tail _ (List.Mem.tail _ (List.Mem.tail _ (List.Mem.tail _ (List.Mem.tail _ (List.Mem.head _)))))), (List.forall_mem_cons.mpr ⟨(List.Mem.tail _ (List.Mem.tail _ (List.Mem.tail _ (List.Mem.tail _ (List.Mem.tail _ (List.Mem.tail _ (List.Mem.head _))))))), (fun q h => absurd h List.not_mem_nil)⟩)⟩)⟩)⟩)⟩) (hk A _ Is7 JRLx_s7 JSEQ_s7 (by first | exact oq_f34933ba ws7_89 ws4_89 p1 b2.1 | omega) (by first | exact oq_d7ce4408 ws7_12 ws4_12 p2 | omega))
theorem lc_23 (G : GX l s0 D tys a0 dT) (GR : RS0 s0) (SF : SF0 s0) (GT : TXs0 s0) {k : kx_T} (X : AX k 350 dT) (E : kL k = l ∧ kS0 k = s0 ∧ kD k = D ∧ kR k = room_1) {q1 L : Nat} {xs : Nat → Int32} (S : SX k q1 L xs) (hL : L ≤ 3072) (I : Bd s) (jR : RLx s) (jSEQ : SEQ s) (p1 : iI s 89 = 1) (p2 : iI s 12 ≤ 8) {i : Int} (hi : 0 ≤ i ∧ i + 6 ≤ (L : Int)) {ce sl : Nat} (hce : ce + 29 ≤ 601024) (hsl : sl + 222 ≤ 7293034) (hk : ∀ (A : Nat → Nat) (t : PS), Bd t → RLx t → SEQ t → iI t 89 = 1 → iI t 12 ≤ 8 → WS k 1901 [(0, .ref q1), (1, .ref (A 0)), (2, .ref (A 179)), (3, .ref (A 517)), (4, .int (Int32.ofInt i))] [] (Wd A dT t) (ce + 29) (sl + 222)) : WS k 1050 [(0, .ref q1), (1, .ref (A 0)), (2, .ref (A 179)), (3, .ref (A 517)), (4, .int (Int32.ofInt i))] [] (Wd A dT s) ce sl := by
  have F : Fm [22, 23, 24, 31, 29, 30, 73, 77, 75, 78, 79, 80, 81, 100, 101] [33, 26, 27, 28, 29, 30, 31, 32, 20, 40, 41, 42, 45, 43, 44, 1460, 202, 204, 205, 206, 207, 208, 209, 210, 211, 212, 213, 214, 215, 216, 217, 218, 219, 220, 221, 222, 223, 224, 225, 226, 227, 203, 161, 230, 231, 232, 240, 238, 239, 236, 235] s s := fm_rf _ _ s
  have b1 := bi_12 I
  have b2 := bi_89 I
  refine z_aload_n X (x := A 0) rfl (List.Mem.tail _ (List.Mem.head _)) (z_aload_n X (x := q1) rfl (List.Mem.head _) (z_load X (x := i) rfl (List.Mem.tail _ (List.Mem.tail _ (List.Mem.tail _ (List.Mem.tail _ (List.Mem.head _))))) (z_const X rfl (z_add X rfl (z_sld X S hL rfl (show 0 ≤ (i + 1) ∧ (i + 1) < (L : Int) by first | exact sx_in hi (by decide) | omega) ?_)))))
  have sr3 : rng (sc xs (i + 1)) := sc_rng
  refine z_aload_n X (x := q1) rfl (List.Mem.head _) (z_load X (x := i) rfl (List.Mem.tail _ (List.Mem.tail _ (List.Mem.tail _ (List.Mem.tail _ (List.Mem.head _))))) (z_const X rfl (z_add X rfl (z_sld X S hL rfl (show 0 ≤ (i + 2) ∧ (i + 2) < (L : Int) by first | exact sx_in hi (by decide) | omega) ?_))))
  have sr4 : rng (sc xs (i + 2)) := sc_rng
  refine z_aload_n X (x := A 517) rfl (List.Mem.tail _ (List.Mem.tail _ (List.Mem.tail _ (List.Mem.head _)))) (z_callL X (rm := rmN 333) (As := [.ref (A 0), .int (Int32.ofInt (sc xs (i + 1))), .int (Int32.ofInt (sc xs (i + 2))), .ref (A 517)]) (st := []) rfl (by decide) rfl (by rw [E.1, E.2.1, E.2.2.1]; exact lw_parted G I (by omega) (by omega)) ⟨by rw [E.2.2.2]; exact (show 35 + 1 ≤ 2048 by decide), by rw [E.2.2.2]; exact (show 8 + (5 + 11) + 1468 ≤ 84000 by decide), by rw [E.2.2.2]; exact (show ce + 2 ≤ 601024 by first | exact rmo_1 hce (by decide) | exact rmo_2 hce (by decide) | omega), by rw [E.2.2.2]; exact (show sl + 12 ≤ 7293034 by first | exact rmo_1 hsl (by decide) | exact rmo_2 hsl (by decide) | omega)⟩ (Nat.le_of_ble_eq_true rfl) (fun vv A s5 hA2 hq => ?_) (fun ee A s5 hA2 hq => ?_))
  rotate_left
  · obtain ⟨Is5, Fs5, e6, hv, hrs5, hps5⟩ := hq; cases hv
  obtain ⟨Is5, Fs5, e6, hv, hrs5, hps5⟩ := hq
  cases hv
  rw [← hA2 0 (by decide)]
  rw [← hA2 179 (by decide)]
  rw [← hA2 517 (by decide)]
  have Gs5 := fm_tq F Fs5 rfl rfl
  have JRLx_s5 : RLx s5 := RLx_fm Fs5 (by decide) jR
  have JSEQ_s5 : SEQ s5 := SEQ_fm Fs5 (by decide) jSEQ
  have ws5_12 : iI s5 12 = iI s 12 := fm_iq Fs5 rfl
  have ws5_89 : iI s5 89 = iI s 89 := fm_iq Fs5 rfl
  show WS k 1067 [(0, .ref q1), (1, .ref (A 0)), (2, .ref (A 179)), (3, .ref (A 517)), (4, .int (Int32.ofInt i))] [.int (Int32.ofInt e6)] (Wd A dT s5) (ce + 2) (sl + 12)
  refine z_store X (lv' := [(5, .int (Int32.ofInt e6)), (0, .ref q1), (1, .ref (A 0)), (2, .ref (A 179)), (3, .ref (A 517)), (4, .int (Int32.ofInt i))]) rfl (by decide) (fun _ h => h) (z_aload_n X (x := A 179) rfl (List.Mem.tail _ (List.Mem.tail _ (List.Mem.tail _ (List.Mem.head _)))) (z_aload_n X (x := q1) rfl (List.Mem.tail _ (List.Mem.head _)) (z_load X (x := i) rfl (List.Mem.tail _ (List.Mem.tail _ (List.Mem.tail _ (List.Mem.tail _ (List.Mem.tail _ (List.Mem.head _)))))) (z_const X rfl (z_add X rfl (z_sld X S hL rfl (show 0 ≤ (i + 1) ∧ (i + 1) < (L : Int) by first | exact sx_in hi (by decide) | omega) ?_))))))
  have sr7 : rng (sc xs (i + 1)) := sc_rng
  refine z_aload_n X (x := q1) rfl (List.Mem.tail _ (List.Mem.head _)) (z_load X (x := i) rfl (List.Mem.tail _ (List.Mem.tail _ (List.Mem.tail _ (List.Mem.tail _ (List.Mem.tail _ (List.Mem.head _)))))) (z_const X rfl (z_add X rfl (z_sld X S hL rfl (show 0 ≤ (i + 2) ∧ (i + 2) < (L : Int) by first | exact sx_in hi (by decide) | omega) ?_))))
  have sr8 : rng (sc xs (i + 2)) := sc_rng
  refine z_callV X 179 (rm := rmN 263) (As := [.int (Int32.ofInt (sc xs (i + 1))), .int (Int32.ofInt (sc xs (i + 2)))]) (st := []) rfl rfl (by decide) rfl (by rw [E.1, E.2.1, E.2.2.1]; exact k_parted G Is5 JRLx_s5 (by first | exact ⟨sr7.1, sr7.2⟩ | omega) (by first | exact ⟨sr8.1, sr8.2⟩ | omega)) ⟨by rw [E.2.2.2]; exact (show 38 + 1 ≤ 2048 from oq_a3fac05c), by rw [E.2.2.2]; exact (show 8 + (3 + 11) + 1601 ≤ 84000 from oq_e81fc71d), by rw [E.2.2.2]; exact (show (ce + 2) + 0 ≤ 601024 by omega), by rw [E.2.2.2]; exact (show (sl + 12) + 0 ≤ 7293034 by omega)⟩ (Nat.le_of_ble_eq_true rfl) (fun vv s9 hq => ?_) (fun ee s9 hq => ?_)
  rotate_left
  · obtain ⟨Is9, Fs9, JRLx_s9, e10, hv, hrs9, hps9⟩ := hq; cases hv
  obtain ⟨Is9, Fs9, JRLx_s9, e10, hv, hrs9, hps9⟩ := hq
  cases hv
  have Gs9 := fm_tq Gs5 Fs9 rfl rfl
  have JRLx_s9 : RLx s9 := RLx_fm Fs9 (by decide) JRLx_s5
  have JSEQ_s9 : SEQ s9 := SEQ_fm Fs9 (by decide) JSEQ_s5
  have ws9_12 : iI s9 12 = iI s5 12 := fm_iq Fs9 rfl
  have ws9_89 : iI s9 89 = iI s5 89 := fm_iq Fs9 rfl
  have wos9 : iO s9 = iO s5 := fm_o Fs9 (by decide)
  show WS k 1085 [(5, .int (Int32.ofInt e6)), (0, .ref q1), (1, .ref (A 0)), (2, .ref (A 179)), (3, .ref (A 517)), (4, .int (Int32.ofInt i))] [.int (Int32.ofInt e10)] (Wd A dT s9) (ce + 2) (sl + 12)
  refine z_store X (lv' := [(6, .int (Int32.ofInt e10)), (5, .int (Int32.ofInt e6)), (0, .ref q1), (1, .ref (A 0)), (2, .ref (A 179)), (3, .ref (A 517)), (4, .int (Int32.ofInt i))]) rfl (by decide) (fun _ h => h) (z_goto X (t := 1901) rfl rfl (w_widen (ce' := ce + 29) (sl' := sl + 222) (by first | exact Nat.le_add_right _ _ | exact Nat.add_le_add_left (by decide) _ | omega) (by first | exact Nat.le_add_right _ _ | exact Nat.add_le_add_left (by decide) _ | omega) ?_))
  exact WS_lv (lv := [(0, .ref q1), (1, .ref (A 0)), (2, .ref (A 179)), (3, .ref (A 517)), (4, .int (Int32.ofInt i))]) (List.forall_mem_cons.mpr ⟨(List.Mem.tail _ (List.Mem.tail _ (List.Mem.head _))), (List.forall_mem_cons.mpr ⟨(List.Mem.tail _ (List.Mem.tail _ (List.Mem.tail _ (List.Mem.head _)))), (List.forall_mem_cons.mpr ⟨(List.Mem.tail _ (List.Mem.tail _ (List.Mem.tail _ (List.Mem.tail _ (List.Mem.head _))))), (List.forall_mem_cons.mpr ⟨(List.Mem.tail _ (List.Mem.tail _ (List.Mem.tail _ (List.Mem.tail _ (List.Mem.tail _ (List.Mem.head _)))))), (List.forall_mem_cons.mpr ⟨(List.Mem.tail _ (List.Mem.tail _ (List.Mem.tail _ (List.Mem.tail _ (List.Mem.tail _ (List.Mem.tail _ (List.Mem.head _))))))), (fun q h => absurd h List.not_mem_nil)⟩)⟩)⟩)⟩)⟩) (hk A _ Is9 JRLx_s9 JSEQ_s9 (by first | exact oq_f34933ba ws9_89 ws5_89 p1 b2.1 | omega) (by first | exact oq_d7ce4408 ws9_12 ws5_12 p2 | omega))
theorem lc_24 (G : GX l s0 D tys a0 dT) (GR : RS0 s0) (SF : SF0 s0) (GT : TXs0 s0) {k : kx_T} (X : AX k 350 dT) (E : kL k = l ∧ kS0 k = s0 ∧ kD k = D ∧ kR k = room_1) {q1 L : Nat} {xs : Nat → Int32} (S : SX k q1 L xs) (hL : L ≤ 3072) (I : Bd s) (jR : RLx s) (jSEQ : SEQ s) (p1 : iI s 89 = 1) (p2 : iI s 12 ≤ 8) {i : Int} (hi : 0 ≤ i ∧ i + 6 ≤ (L : Int)) {ce sl : Nat} (hce : ce + 29 ≤ 601024) (hsl : sl + 222 ≤ 7293034) (hk : ∀ (A : Nat → Nat) (t : PS), Bd t → RLx t → SEQ t → iI t 89 = 1 → iI t 12 ≤ 8 → WS k 1901 [(0, .ref q1), (1, .ref (A 0)), (2, .ref (A 179)), (3, .ref (A 517)), (4, .int (Int32.ofInt i))] [] (Wd A dT t) (ce + 29) (sl + 222)) : WS k 1090 [(0, .ref q1), (1, .ref (A 0)), (2, .ref (A 179)), (3, .ref (A 517)), (4, .int (Int32.ofInt i))] [] (Wd A dT s) ce sl := by
  have F : Fm [28, 73, 97] [] s s := fm_rf _ _ s
  have b1 := bi_12 I
  have b2 := bi_89 I
  refine z_aload_n X (x := A 0) rfl (List.Mem.tail _ (List.Mem.head _)) (z_callV X 0 (rm := rmN 159) (As := []) (st := []) rfl rfl (by decide) rfl (by rw [E.1, E.2.1, E.2.2.1]; exact cs_clear G I ) ⟨by rw [E.2.2.2]; exact (show 6 + 1 ≤ 2048 from oq_4d34cb53), by rw [E.2.2.2]; exact (show 8 + (2 + 11) + 100 ≤ 84000 from oq_8731b8c0), by rw [E.2.2.2]; exact (show ce + 0 ≤ 601024 by omega), by rw [E.2.2.2]; exact (show sl + 0 ≤ 7293034 by omega)⟩ (Nat.le_of_ble_eq_true rfl) (fun vv s3 hq => ?_) (fun ee s3 hq => ?_))
  rotate_left
  · obtain ⟨Is3, Fs3, e4, hv, hrs3, hps3⟩ := hq; cases hv
  obtain ⟨Is3, Fs3, e4, hv, hrs3, hps3⟩ := hq
  cases hv
  have Gs3 := fm_tq F Fs3 rfl rfl
  have JRLx_s3 : RLx s3 := RLx_fm Fs3 (by decide) jR
  have JSEQ_s3 : SEQ s3 := SEQ_fm Fs3 (by decide) jSEQ
  have ws3_12 : iI s3 12 = iI s 12 := fm_iq Fs3 rfl
  have ws3_89 : iI s3 89 = iI s 89 := fm_iq Fs3 rfl
  have wos3 : iO s3 = iO s := fm_o Fs3 (by decide)
  show WS k 1094 [(0, .ref q1), (1, .ref (A 0)), (2, .ref (A 179)), (3, .ref (A 517)), (4, .int (Int32.ofInt i))] [.int (Int32.ofInt e4)] (Wd A dT s3) ce sl
  refine w_pop X.1 (ax_d X (show cdA 350 1094 = some (.pop, 1, 0, 0, 0) from rfl)) rfl (z_aload_n X (x := A 179) rfl (List.Mem.tail _ (List.Mem.tail _ (List.Mem.head _))) (z_callV X 179 (rm := rmN 259) (As := []) (st := []) rfl rfl (by decide) rfl (by rw [E.1, E.2.1, E.2.2.1]; exact k_clear G Is3 ) ⟨by rw [E.2.2.2]; exact (show 6 + 1 ≤ 2048 from oq_4d34cb53), by rw [E.2.2.2]; exact (show 8 + (2 + 11) + 100 ≤ 84000 from oq_8731b8c0), by rw [E.2.2.2]; exact (show ce + 0 ≤ 601024 by omega), by rw [E.2.2.2]; exact (show sl + 0 ≤ 7293034 by omega)⟩ (Nat.le_of_ble_eq_true rfl) (fun vv s5 hq => ?_) (fun ee s5 hq => ?_)))
  rotate_left
  · obtain ⟨Is5, Fs5, e6, hv, hrs5, hps5⟩ := hq; cases hv
  obtain ⟨Is5, Fs5, e6, hv, hrs5, hps5⟩ := hq
  cases hv
  have Gs5 := fm_tq Gs3 Fs5 rfl rfl
  have JRLx_s5 : RLx s5 := RLx_fm Fs5 (by decide) JRLx_s3
  have JSEQ_s5 : SEQ s5 := SEQ_fm Fs5 (by decide) JSEQ_s3
  have ws5_12 : iI s5 12 = iI s3 12 := fm_iq Fs5 rfl
  have ws5_89 : iI s5 89 = iI s3 89 := fm_iq Fs5 rfl
  have wos5 : iO s5 = iO s3 := fm_o Fs5 (by decide)
  show WS k 1099 [(0, .ref q1), (1, .ref (A 0)), (2, .ref (A 179)), (3, .ref (A 517)), (4, .int (Int32.ofInt i))] [.int (Int32.ofInt e6)] (Wd A dT s5) ce sl
  refine w_pop X.1 (ax_d X (show cdA 350 1099 = some (.pop, 1, 0, 0, 0) from rfl)) rfl (z_goto X (t := 1901) rfl rfl (w_widen (ce' := ce + 29) (sl' := sl + 222) (by first | exact Nat.le_add_right _ _ | exact Nat.add_le_add_left (by decide) _ | omega) (by first | exact Nat.le_add_right _ _ | exact Nat.add_le_add_left (by decide) _ | omega) ?_))
  exact WS_lv (lv := [(0, .ref q1), (1, .ref (A 0)), (2, .ref (A 179)), (3, .ref (A 517)), (4, .int (Int32.ofInt i))]) (List.forall_mem_cons.mpr ⟨(List.Mem.head _), (List.forall_mem_cons.mpr ⟨(List.Mem.tail _ (List.Mem.head _)), (List.forall_mem_cons.mpr ⟨(List.Mem.tail _ (List.Mem.tail _ (List.Mem.head _))), (List.forall_mem_cons.mpr ⟨(List.Mem.tail _ (List.Mem.tail _ (List.Mem.tail _ (List.Mem.head _)))), (List.forall_mem_cons.mpr ⟨(List.Mem.tail _ (List.Mem.tail _ (List.Mem.tail _ (List.Mem.tail _ (List.Mem.head _))))), (fun q h => absurd h List.not_mem_nil)⟩)⟩)⟩)⟩)⟩) (hk A _ Is5 JRLx_s5 JSEQ_s5 (by first | exact oq_f34933ba ws5_89 ws3_89 p1 b2.1 | omega) (by first | exact oq_d7ce4408 ws5_12 ws3_12 p2 | omega))
theorem lc_25 (G : GX l s0 D tys a0 dT) (GR : RS0 s0) (SF : SF0 s0) (GT : TXs0 s0) {k : kx_T} (X : AX k 350 dT) (E : kL k = l ∧ kS0 k = s0 ∧ kD k = D ∧ kR k = room_1) {q1 L : Nat} {xs : Nat → Int32} (S : SX k q1 L xs) (hL : L ≤ 3072) (I : Bd s) (jR : RLx s) (jSEQ : SEQ s) (p1 : iI s 89 = 1) (p2 : iI s 12 ≤ 8) {i : Int} (hi : 0 ≤ i ∧ i + 6 ≤ (L : Int)) {ce sl : Nat} (hce : ce + 29 ≤ 601024) (hsl : sl + 222 ≤ 7293034) (hk : ∀ (A : Nat → Nat) (t : PS), Bd t → RLx t → SEQ t → iI t 89 = 1 → iI t 12 ≤ 8 → WS k 1901 [(0, .ref q1), (1, .ref (A 0)), (2, .ref (A 179)), (3, .ref (A 517)), (4, .int (Int32.ofInt i))] [] (Wd A dT t) (ce + 29) (sl + 222)) : WS k 1103 [(0, .ref q1), (1, .ref (A 0)), (2, .ref (A 179)), (3, .ref (A 517)), (4, .int (Int32.ofInt i))] [] (Wd A dT s) ce sl := by
  have F : Fm [32, 73, 99] [46, 1460, 237] s s := fm_rf _ _ s
  have b1 := bi_12 I
  have b2 := bi_89 I
  refine z_aload_n X (x := A 0) rfl (List.Mem.tail _ (List.Mem.head _)) (z_aload_n X (x := q1) rfl (List.Mem.head _) (z_load X (x := i) rfl (List.Mem.tail _ (List.Mem.tail _ (List.Mem.tail _ (List.Mem.tail _ (List.Mem.head _))))) (z_const X rfl (z_add X rfl (z_sld X S hL rfl (show 0 ≤ (i + 1) ∧ (i + 1) < (L : Int) by first | exact sx_in hi (by decide) | omega) ?_)))))
  have sr3 : rng (sc xs (i + 1)) := sc_rng
  refine z_aload_n X (x := A 517) rfl (List.Mem.tail _ (List.Mem.tail _ (List.Mem.tail _ (List.Mem.head _)))) (z_callL X (rm := rmN 334) (As := [.ref (A 0), .int (Int32.ofInt (sc xs (i + 1))), .ref (A 517)]) (st := []) rfl (by decide) rfl (by rw [E.1, E.2.1, E.2.2.1]; exact lw_configure G I (by omega)) ⟨by rw [E.2.2.2]; exact (show 8 + 1 ≤ 2048 by decide), by rw [E.2.2.2]; exact (show 8 + (4 + 11) + 144 ≤ 84000 by decide), by rw [E.2.2.2]; exact (show ce + 1 ≤ 601024 by first | exact rmo_1 hce (by decide) | exact rmo_2 hce (by decide) | omega), by rw [E.2.2.2]; exact (show sl + 6 ≤ 7293034 by first | exact rmo_1 hsl (by decide) | exact rmo_2 hsl (by decide) | omega)⟩ (Nat.le_of_ble_eq_true rfl) (fun vv A s4 hA2 hq => ?_) (fun ee A s4 hA2 hq => ?_))
  rotate_left
  · obtain ⟨Is4, Fs4, e5, hv, hrs4, hps4⟩ := hq; cases hv
  obtain ⟨Is4, Fs4, e5, hv, hrs4, hps4⟩ := hq
  cases hv
  rw [← hA2 0 (by decide)]
  rw [← hA2 179 (by decide)]
  rw [← hA2 517 (by decide)]
  have Gs4 := fm_tq F Fs4 rfl rfl
  have JRLx_s4 : RLx s4 := RLx_fm Fs4 (by decide) jR
  have JSEQ_s4 : SEQ s4 := SEQ_fm Fs4 (by decide) jSEQ
  have ws4_12 : iI s4 12 = iI s 12 := fm_iq Fs4 rfl
  have ws4_89 : iI s4 89 = iI s 89 := fm_iq Fs4 rfl
  show WS k 1114 [(0, .ref q1), (1, .ref (A 0)), (2, .ref (A 179)), (3, .ref (A 517)), (4, .int (Int32.ofInt i))] [.int (Int32.ofInt e5)] (Wd A dT s4) (ce + 1) (sl + 6)
  refine z_store X (lv' := [(5, .int (Int32.ofInt e5)), (0, .ref q1), (1, .ref (A 0)), (2, .ref (A 179)), (3, .ref (A 517)), (4, .int (Int32.ofInt i))]) rfl (by decide) (fun _ h => h) (z_aload_n X (x := A 179) rfl (List.Mem.tail _ (List.Mem.tail _ (List.Mem.tail _ (List.Mem.head _)))) (z_aload_n X (x := q1) rfl (List.Mem.tail _ (List.Mem.head _)) (z_load X (x := i) rfl (List.Mem.tail _ (List.Mem.tail _ (List.Mem.tail _ (List.Mem.tail _ (List.Mem.tail _ (List.Mem.head _)))))) (z_const X rfl (z_add X rfl (z_sld X S hL rfl (show 0 ≤ (i + 1) ∧ (i + 1) < (L : Int) by first | exact sx_in hi (by decide) | omega) ?_))))))
  have sr6 : rng (sc xs (i + 1)) := sc_rng
  refine z_callV X 179 (rm := rmN 264) (As := [.int (Int32.ofInt (sc xs (i + 1)))]) (st := []) rfl rfl (by decide) rfl (by rw [E.1, E.2.1, E.2.2.1]; exact k_configure G Is4 (by first | exact ⟨sr6.1, sr6.2⟩ | omega)) ⟨by rw [E.2.2.2]; exact (show 7 + 1 ≤ 2048 from oq_4e6106eb), by rw [E.2.2.2]; exact (show 8 + (2 + 11) + 122 ≤ 84000 from oq_f09e007f), by rw [E.2.2.2]; exact (show (ce + 1) + 0 ≤ 601024 by omega), by rw [E.2.2.2]; exact (show (sl + 6) + 0 ≤ 7293034 by omega)⟩ (Nat.le_of_ble_eq_true rfl) (fun vv s7 hq => ?_) (fun ee s7 hq => ?_)
  rotate_left
  · obtain ⟨Is7, Fs7, e8, hv, hrs7, hps7⟩ := hq; cases hv
  obtain ⟨Is7, Fs7, e8, hv, hrs7, hps7⟩ := hq
  cases hv
  have Gs7 := fm_tq Gs4 Fs7 rfl rfl
  have JRLx_s7 : RLx s7 := RLx_fm Fs7 (by decide) JRLx_s4
  have JSEQ_s7 : SEQ s7 := SEQ_fm Fs7 (by decide) JSEQ_s4
  have ws7_12 : iI s7 12 = iI s4 12 := fm_iq Fs7 rfl
  have ws7_89 : iI s7 89 = iI s4 89 := fm_iq Fs7 rfl
  have wos7 : iO s7 = iO s4 := fm_o Fs7 (by decide)
  show WS k 1126 [(5, .int (Int32.ofInt e5)), (0, .ref q1), (1, .ref (A 0)), (2, .ref (A 179)), (3, .ref (A 517)), (4, .int (Int32.ofInt i))] [.int (Int32.ofInt e8)] (Wd A dT s7) (ce + 1) (sl + 6)
  refine z_store X (lv' := [(6, .int (Int32.ofInt e8)), (5, .int (Int32.ofInt e5)), (0, .ref q1), (1, .ref (A 0)), (2, .ref (A 179)), (3, .ref (A 517)), (4, .int (Int32.ofInt i))]) rfl (by decide) (fun _ h => h) (z_goto X (t := 1901) rfl rfl (w_widen (ce' := ce + 29) (sl' := sl + 222) (by first | exact Nat.le_add_right _ _ | exact Nat.add_le_add_left (by decide) _ | omega) (by first | exact Nat.le_add_right _ _ | exact Nat.add_le_add_left (by decide) _ | omega) ?_))
  exact WS_lv (lv := [(0, .ref q1), (1, .ref (A 0)), (2, .ref (A 179)), (3, .ref (A 517)), (4, .int (Int32.ofInt i))]) (List.forall_mem_cons.mpr ⟨(List.Mem.tail _ (List.Mem.tail _ (List.Mem.head _))), (List.forall_mem_cons.mpr ⟨(List.Mem.tail _ (List.Mem.tail _ (List.Mem.tail _ (List.Mem.head _)))), (List.forall_mem_cons.mpr ⟨(List.Mem.tail _ (List.Mem.tail _ (List.Mem.tail _ (List.Mem.tail _ (List.Mem.head _))))), (List.forall_mem_cons.mpr ⟨(List.Mem.tail _ (List.Mem.tail _ (List.Mem.tail _ (List.Mem.tail _ (List.Mem.tail _ (List.Mem.head _)))))), (List.forall_mem_cons.mpr ⟨(List.Mem.tail _ (List.Mem.tail _ (List.Mem.tail _ (List.Mem.tail _ (List.Mem.tail _ (List.Mem.tail _ (List.Mem.head _))))))), (fun q h => absurd h List.not_mem_nil)⟩)⟩)⟩)⟩)⟩) (hk A _ Is7 JRLx_s7 JSEQ_s7 (by first | exact oq_f34933ba ws7_89 ws4_89 p1 b2.1 | omega) (by first | exact oq_d7ce4408 ws7_12 ws4_12 p2 | omega))
theorem lc_26 (G : GX l s0 D tys a0 dT) (GR : RS0 s0) (SF : SF0 s0) (GT : TXs0 s0) {k : kx_T} (X : AX k 350 dT) (E : kL k = l ∧ kS0 k = s0 ∧ kD k = D ∧ kR k = room_1) {q1 L : Nat} {xs : Nat → Int32} (S : SX k q1 L xs) (hL : L ≤ 3072) (I : Bd s) (jR : RLx s) (jSEQ : SEQ s) (p1 : iI s 89 = 1) (p2 : iI s 12 ≤ 8) {i : Int} (hi : 0 ≤ i ∧ i + 6 ≤ (L : Int)) {ce sl : Nat} (hce : ce + 29 ≤ 601024) (hsl : sl + 222 ≤ 7293034) (hk : ∀ (A : Nat → Nat) (t : PS), Bd t → RLx t → SEQ t → iI t 89 = 1 → iI t 12 ≤ 8 → WS k 1901 [(0, .ref q1), (1, .ref (A 0)), (2, .ref (A 179)), (3, .ref (A 517)), (4, .int (Int32.ofInt i))] [] (Wd A dT t) (ce + 29) (sl + 222)) : WS k 1131 [(0, .ref q1), (1, .ref (A 0)), (2, .ref (A 179)), (3, .ref (A 517)), (4, .int (Int32.ofInt i))] [] (Wd A dT s) ce sl := by
  have F : Fm [22, 23, 24, 73, 89, 77, 75, 78, 79, 80, 81] [33, 26, 27, 28, 29, 30, 31, 32, 20, 48, 47, 1460, 202, 204, 205, 206, 207, 208, 209, 210, 211, 212, 213, 214, 215, 216, 217, 218, 219, 220, 221, 222, 223, 224, 225, 226, 227, 203, 161, 230] s s := fm_rf _ _ s
  have b1 := bi_12 I
  have b2 := bi_89 I
  refine z_aload_n X (x := A 0) rfl (List.Mem.tail _ (List.Mem.head _)) (z_aload_n X (x := q1) rfl (List.Mem.head _) (z_load X (x := i) rfl (List.Mem.tail _ (List.Mem.tail _ (List.Mem.tail _ (List.Mem.tail _ (List.Mem.head _))))) (z_const X rfl (z_add X rfl (z_sld X S hL rfl (show 0 ≤ (i + 1) ∧ (i + 1) < (L : Int) by first | exact sx_in hi (by decide) | omega) ?_)))))
  have sr3 : rng (sc xs (i + 1)) := sc_rng
  refine z_aload_n X (x := q1) rfl (List.Mem.head _) (z_load X (x := i) rfl (List.Mem.tail _ (List.Mem.tail _ (List.Mem.tail _ (List.Mem.tail _ (List.Mem.head _))))) (z_const X rfl (z_add X rfl (z_sld X S hL rfl (show 0 ≤ (i + 2) ∧ (i + 2) < (L : Int) by first | exact sx_in hi (by decide) | omega) ?_))))
  have sr4 : rng (sc xs (i + 2)) := sc_rng
  refine z_aload_n X (x := A 517) rfl (List.Mem.tail _ (List.Mem.tail _ (List.Mem.tail _ (List.Mem.head _)))) (z_callL X (rm := rmN 335) (As := [.ref (A 0), .int (Int32.ofInt (sc xs (i + 1))), .int (Int32.ofInt (sc xs (i + 2))), .ref (A 517)]) (st := []) rfl (by decide) rfl (by rw [E.1, E.2.1, E.2.2.1]; exact lw_pairs G I (by omega) (by omega) (by omega)) ⟨by rw [E.2.2.2]; exact (show 12 + 1 ≤ 2048 by decide), by rw [E.2.2.2]; exact (show 8 + (5 + 11) + 248 ≤ 84000 by decide), by rw [E.2.2.2]; exact (show ce + 2 ≤ 601024 by first | exact rmo_1 hce (by decide) | exact rmo_2 hce (by decide) | omega), by rw [E.2.2.2]; exact (show sl + 12 ≤ 7293034 by first | exact rmo_1 hsl (by decide) | exact rmo_2 hsl (by decide) | omega)⟩ (Nat.le_of_ble_eq_true rfl) (fun vv A s5 hA2 hq => ?_) (fun ee A s5 hA2 hq => ?_))
  rotate_left
  · obtain ⟨Is5, Fs5, e6, hv, hrs5, hps5⟩ := hq; cases hv
  obtain ⟨Is5, Fs5, e6, hv, hrs5, hps5⟩ := hq
  cases hv
  rw [← hA2 0 (by decide)]
  rw [← hA2 179 (by decide)]
  rw [← hA2 517 (by decide)]
  have Gs5 := fm_tq F Fs5 rfl rfl
  have JRLx_s5 : RLx s5 := RLx_fm Fs5 (by decide) jR
  have JSEQ_s5 : SEQ s5 := SEQ_fm Fs5 (by decide) jSEQ
  have ws5_12 : iI s5 12 = iI s 12 := fm_iq Fs5 rfl
  have ws5_89 : iI s5 89 = iI s 89 := fm_iq Fs5 rfl
  show WS k 1148 [(0, .ref q1), (1, .ref (A 0)), (2, .ref (A 179)), (3, .ref (A 517)), (4, .int (Int32.ofInt i))] [.int (Int32.ofInt e6)] (Wd A dT s5) (ce + 2) (sl + 12)
  refine z_store X (lv' := [(5, .int (Int32.ofInt e6)), (0, .ref q1), (1, .ref (A 0)), (2, .ref (A 179)), (3, .ref (A 517)), (4, .int (Int32.ofInt i))]) rfl (by decide) (fun _ h => h) (z_aload_n X (x := A 179) rfl (List.Mem.tail _ (List.Mem.tail _ (List.Mem.tail _ (List.Mem.head _)))) (z_aload_n X (x := q1) rfl (List.Mem.tail _ (List.Mem.head _)) (z_load X (x := i) rfl (List.Mem.tail _ (List.Mem.tail _ (List.Mem.tail _ (List.Mem.tail _ (List.Mem.tail _ (List.Mem.head _)))))) (z_const X rfl (z_add X rfl (z_sld X S hL rfl (show 0 ≤ (i + 1) ∧ (i + 1) < (L : Int) by first | exact sx_in hi (by decide) | omega) ?_))))))
  have sr7 : rng (sc xs (i + 1)) := sc_rng
  refine z_aload_n X (x := q1) rfl (List.Mem.tail _ (List.Mem.head _)) (z_load X (x := i) rfl (List.Mem.tail _ (List.Mem.tail _ (List.Mem.tail _ (List.Mem.tail _ (List.Mem.tail _ (List.Mem.head _)))))) (z_const X rfl (z_add X rfl (z_sld X S hL rfl (show 0 ≤ (i + 2) ∧ (i + 2) < (L : Int) by first | exact sx_in hi (by decide) | omega) ?_))))
  have sr8 : rng (sc xs (i + 2)) := sc_rng
  refine z_callV X 179 (rm := rmN 267) (As := [.int (Int32.ofInt (sc xs (i + 1))), .int (Int32.ofInt (sc xs (i + 2)))]) (st := []) rfl rfl (by decide) rfl (by rw [E.1, E.2.1, E.2.2.1]; exact k_pairs G Is5 JRLx_s5 (by first | exact ⟨sr7.1, sr7.2⟩ | omega) (by first | exact ⟨sr8.1, sr8.2⟩ | omega)) ⟨by rw [E.2.2.2]; exact (show 62 + 1 ≤ 2048 from oq_03e28196), by rw [E.2.2.2]; exact (show 8 + (3 + 11) + 2686 ≤ 84000 from oq_1f8b0a4c), by rw [E.2.2.2]; exact (show (ce + 2) + 0 ≤ 601024 by omega), by rw [E.2.2.2]; exact (show (sl + 12) + 0 ≤ 7293034 by omega)⟩ (Nat.le_of_ble_eq_true rfl) (fun vv s9 hq => ?_) (fun ee s9 hq => ?_)
  rotate_left
  · obtain ⟨Is9, Fs9, JRLx_s9, e10, hv, hrs9, hps9⟩ := hq; cases hv
  obtain ⟨Is9, Fs9, JRLx_s9, e10, hv, hrs9, hps9⟩ := hq
  cases hv
  have Gs9 := fm_tq Gs5 Fs9 rfl rfl
  have JRLx_s9 : RLx s9 := RLx_fm Fs9 (by decide) JRLx_s5
  have JSEQ_s9 : SEQ s9 := SEQ_fm Fs9 (by decide) JSEQ_s5
  have ws9_12 : iI s9 12 = iI s5 12 := fm_iq Fs9 rfl
  have b11 := bi_89 Is9
  have wos9 : iO s9 = iO s5 := fm_o Fs9 (by decide)
  replace hps9 := hps9 (by clear hps9; omega)
  show WS k 1166 [(5, .int (Int32.ofInt e6)), (0, .ref q1), (1, .ref (A 0)), (2, .ref (A 179)), (3, .ref (A 517)), (4, .int (Int32.ofInt i))] [.int (Int32.ofInt e10)] (Wd A dT s9) (ce + 2) (sl + 12)
  refine z_store X (lv' := [(6, .int (Int32.ofInt e10)), (5, .int (Int32.ofInt e6)), (0, .ref q1), (1, .ref (A 0)), (2, .ref (A 179)), (3, .ref (A 517)), (4, .int (Int32.ofInt i))]) rfl (by decide) (fun _ h => h) (z_goto X (t := 1901) rfl rfl (w_widen (ce' := ce + 29) (sl' := sl + 222) (by first | exact Nat.le_add_right _ _ | exact Nat.add_le_add_left (by decide) _ | omega) (by first | exact Nat.le_add_right _ _ | exact Nat.add_le_add_left (by decide) _ | omega) ?_))
  exact WS_lv (lv := [(0, .ref q1), (1, .ref (A 0)), (2, .ref (A 179)), (3, .ref (A 517)), (4, .int (Int32.ofInt i))]) (List.forall_mem_cons.mpr ⟨(List.Mem.tail _ (List.Mem.tail _ (List.Mem.head _))), (List.forall_mem_cons.mpr ⟨(List.Mem.tail _ (List.Mem.tail _ (List.Mem.tail _ (List.Mem.head _)))), (List.forall_mem_cons.mpr ⟨(List.Mem.tail _ (List.Mem.tail _ (List.Mem.tail _ (List.Mem.tail _ (List.Mem.head _))))), (List.forall_mem_cons.mpr ⟨(List.Mem.tail _ (List.Mem.tail _ (List.Mem.tail _ (List.Mem.tail _ (List.Mem.tail _ (List.Mem.head _)))))), (List.forall_mem_cons.mpr ⟨(List.Mem.tail _ (List.Mem.tail _ (List.Mem.tail _ (List.Mem.tail _ (List.Mem.tail _ (List.Mem.tail _ (List.Mem.head _))))))), (fun q h => absurd h List.not_mem_nil)⟩)⟩)⟩)⟩)⟩) (hk A _ Is9 JRLx_s9 JSEQ_s9 (by first | exact oq_e8f78630 b11.1 hps9 ws5_89 b2.1 p1 | omega) (by first | exact oq_d7ce4408 ws9_12 ws5_12 p2 | omega))
theorem lc_27 (G : GX l s0 D tys a0 dT) (GR : RS0 s0) (SF : SF0 s0) (GT : TXs0 s0) {k : kx_T} (X : AX k 350 dT) (E : kL k = l ∧ kS0 k = s0 ∧ kD k = D ∧ kR k = room_1) {q1 L : Nat} {xs : Nat → Int32} (S : SX k q1 L xs) (hL : L ≤ 3072) (I : Bd s) (jR : RLx s) (jSEQ : SEQ s) (p1 : iI s 89 = 1) (p2 : iI s 12 ≤ 8) {i : Int} (hi : 0 ≤ i ∧ i + 6 ≤ (L : Int)) {ce sl : Nat} (hce : ce + 29 ≤ 601024) (hsl : sl + 222 ≤ 7293034) (hk : ∀ (A : Nat → Nat) (t : PS), Bd t → RLx t → SEQ t → iI t 89 = 1 → iI t 12 ≤ 8 → WS k 1901 [(0, .ref q1), (1, .ref (A 0)), (2, .ref (A 179)), (3, .ref (A 517)), (4, .int (Int32.ofInt i))] [] (Wd A dT t) (ce + 29) (sl + 222)) : WS k 1171 [(0, .ref q1), (1, .ref (A 0)), (2, .ref (A 179)), (3, .ref (A 517)), (4, .int (Int32.ofInt i))] [] (Wd A dT s) ce sl := by
  have F : Fm [33, 73, 96] [1460] s s := fm_rf _ _ s
  have b1 := bi_12 I
  have b2 := bi_89 I
  refine z_aload_n X (x := A 0) rfl (List.Mem.tail _ (List.Mem.head _)) (z_aload_n X (x := q1) rfl (List.Mem.head _) (z_load X (x := i) rfl (List.Mem.tail _ (List.Mem.tail _ (List.Mem.tail _ (List.Mem.tail _ (List.Mem.head _))))) (z_const X rfl (z_add X rfl (z_sld X S hL rfl (show 0 ≤ (i + 1) ∧ (i + 1) < (L : Int) by first | exact sx_in hi (by decide) | omega) ?_)))))
  have sr3 : rng (sc xs (i + 1)) := sc_rng
  refine z_aload_n X (x := A 517) rfl (List.Mem.tail _ (List.Mem.tail _ (List.Mem.tail _ (List.Mem.head _)))) (z_callL X (rm := rmN 336) (As := [.ref (A 0), .int (Int32.ofInt (sc xs (i + 1))), .ref (A 517)]) (st := []) rfl (by decide) rfl (by rw [E.1, E.2.1, E.2.2.1]; exact lw_busy G I (by omega)) ⟨by rw [E.2.2.2]; exact (show 8 + 1 ≤ 2048 by decide), by rw [E.2.2.2]; exact (show 8 + (4 + 11) + 145 ≤ 84000 by decide), by rw [E.2.2.2]; exact (show ce + 1 ≤ 601024 by first | exact rmo_1 hce (by decide) | exact rmo_2 hce (by decide) | omega), by rw [E.2.2.2]; exact (show sl + 6 ≤ 7293034 by first | exact rmo_1 hsl (by decide) | exact rmo_2 hsl (by decide) | omega)⟩ (Nat.le_of_ble_eq_true rfl) (fun vv A s4 hA2 hq => ?_) (fun ee A s4 hA2 hq => ?_))
  rotate_left
  · obtain ⟨Is4, Fs4, e5, hv, hrs4, hps4⟩ := hq; cases hv
  obtain ⟨Is4, Fs4, e5, hv, hrs4, hps4⟩ := hq
  cases hv
  rw [← hA2 0 (by decide)]
  rw [← hA2 179 (by decide)]
  rw [← hA2 517 (by decide)]
  have Gs4 := fm_tq F Fs4 rfl rfl
  have JRLx_s4 : RLx s4 := RLx_fm Fs4 (by decide) jR
  have JSEQ_s4 : SEQ s4 := SEQ_fm Fs4 (by decide) jSEQ
  have ws4_12 : iI s4 12 = iI s 12 := fm_iq Fs4 rfl
  have ws4_89 : iI s4 89 = iI s 89 := fm_iq Fs4 rfl
  show WS k 1182 [(0, .ref q1), (1, .ref (A 0)), (2, .ref (A 179)), (3, .ref (A 517)), (4, .int (Int32.ofInt i))] [.int (Int32.ofInt e5)] (Wd A dT s4) (ce + 1) (sl + 6)
  refine z_store X (lv' := [(5, .int (Int32.ofInt e5)), (0, .ref q1), (1, .ref (A 0)), (2, .ref (A 179)), (3, .ref (A 517)), (4, .int (Int32.ofInt i))]) rfl (by decide) (fun _ h => h) (z_aload_n X (x := A 179) rfl (List.Mem.tail _ (List.Mem.tail _ (List.Mem.tail _ (List.Mem.head _)))) (z_aload_n X (x := q1) rfl (List.Mem.tail _ (List.Mem.head _)) (z_load X (x := i) rfl (List.Mem.tail _ (List.Mem.tail _ (List.Mem.tail _ (List.Mem.tail _ (List.Mem.tail _ (List.Mem.head _)))))) (z_const X rfl (z_add X rfl (z_sld X S hL rfl (show 0 ≤ (i + 1) ∧ (i + 1) < (L : Int) by first | exact sx_in hi (by decide) | omega) ?_))))))
  have sr6 : rng (sc xs (i + 1)) := sc_rng
  refine z_callV X 179 (rm := rmN 268) (As := [.int (Int32.ofInt (sc xs (i + 1)))]) (st := []) rfl rfl (by decide) rfl (by rw [E.1, E.2.1, E.2.2.1]; exact k_busy G Is4 (by first | exact ⟨sr6.1, sr6.2⟩ | omega)) ⟨by rw [E.2.2.2]; exact (show 7 + 1 ≤ 2048 from oq_4e6106eb), by rw [E.2.2.2]; exact (show 8 + (3 + 11) + 122 ≤ 84000 from oq_38d194b9), by rw [E.2.2.2]; exact (show (ce + 1) + 0 ≤ 601024 by omega), by rw [E.2.2.2]; exact (show (sl + 6) + 0 ≤ 7293034 by omega)⟩ (Nat.le_of_ble_eq_true rfl) (fun vv s7 hq => ?_) (fun ee s7 hq => ?_)
  rotate_left
  · obtain ⟨Is7, Fs7, e8, hv, hrs7, hps7⟩ := hq; cases hv
  obtain ⟨Is7, Fs7, e8, hv, hrs7, hps7⟩ := hq
  cases hv
  have Gs7 := fm_tq Gs4 Fs7 rfl rfl
  have JRLx_s7 : RLx s7 := RLx_fm Fs7 (by decide) JRLx_s4
  have JSEQ_s7 : SEQ s7 := SEQ_fm Fs7 (by decide) JSEQ_s4
  have ws7_12 : iI s7 12 = iI s4 12 := fm_iq Fs7 rfl
  have ws7_89 : iI s7 89 = iI s4 89 := fm_iq Fs7 rfl
  have wos7 : iO s7 = iO s4 := fm_o Fs7 (by decide)
  show WS k 1194 [(5, .int (Int32.ofInt e5)), (0, .ref q1), (1, .ref (A 0)), (2, .ref (A 179)), (3, .ref (A 517)), (4, .int (Int32.ofInt i))] [.int (Int32.ofInt e8)] (Wd A dT s7) (ce + 1) (sl + 6)
  refine z_store X (lv' := [(6, .int (Int32.ofInt e8)), (5, .int (Int32.ofInt e5)), (0, .ref q1), (1, .ref (A 0)), (2, .ref (A 179)), (3, .ref (A 517)), (4, .int (Int32.ofInt i))]) rfl (by decide) (fun _ h => h) (z_goto X (t := 1901) rfl rfl (w_widen (ce' := ce + 29) (sl' := sl + 222) (by first | exact Nat.le_add_right _ _ | exact Nat.add_le_add_left (by decide) _ | omega) (by first | exact Nat.le_add_right _ _ | exact Nat.add_le_add_left (by decide) _ | omega) ?_))
  exact WS_lv (lv := [(0, .ref q1), (1, .ref (A 0)), (2, .ref (A 179)), (3, .ref (A 517)), (4, .int (Int32.ofInt i))]) (List.forall_mem_cons.mpr ⟨(List.Mem.tail _ (List.Mem.tail _ (List.Mem.head _))), (List.forall_mem_cons.mpr ⟨(List.Mem.tail _ (List.Mem.tail _ (List.Mem.tail _ (List.Mem.head _)))), (List.forall_mem_cons.mpr ⟨(List.Mem.tail _ (List.Mem.tail _ (List.Mem.tail _ (List.Mem.tail _ (List.Mem.head _))))), (List.forall_mem_cons.mpr ⟨(List.Mem.tail _ (List.Mem.tail _ (List.Mem.tail _ (List.Mem.tail _ (List.Mem.tail _ (List.Mem.head _)))))), (List.forall_mem_cons.mpr ⟨(List.Mem.tail _ (List.Mem.tail _ (List.Mem.tail _ (List.Mem.tail _ (List.Mem.tail _ (List.Mem.tail _ (List.Mem.head _))))))), (fun q h => absurd h List.not_mem_nil)⟩)⟩)⟩)⟩)⟩) (hk A _ Is7 JRLx_s7 JSEQ_s7 (by first | exact oq_f34933ba ws7_89 ws4_89 p1 b2.1 | omega) (by first | exact oq_d7ce4408 ws7_12 ws4_12 p2 | omega))
theorem lc_28 (G : GX l s0 D tys a0 dT) (GR : RS0 s0) (SF : SF0 s0) (GT : TXs0 s0) {k : kx_T} (X : AX k 350 dT) (E : kL k = l ∧ kS0 k = s0 ∧ kD k = D ∧ kR k = room_1) {q1 L : Nat} {xs : Nat → Int32} (S : SX k q1 L xs) (hL : L ≤ 3072) (I : Bd s) (jR : RLx s) (jSEQ : SEQ s) (p1 : iI s 89 = 1) (p2 : iI s 12 ≤ 8) {i : Int} (hi : 0 ≤ i ∧ i + 6 ≤ (L : Int)) {ce sl : Nat} (hce : ce + 29 ≤ 601024) (hsl : sl + 222 ≤ 7293034) (hk : ∀ (A : Nat → Nat) (t : PS), Bd t → RLx t → SEQ t → iI t 89 = 1 → iI t 12 ≤ 8 → WS k 1901 [(0, .ref q1), (1, .ref (A 0)), (2, .ref (A 179)), (3, .ref (A 517)), (4, .int (Int32.ofInt i))] [] (Wd A dT t) (ce + 29) (sl + 222)) : WS k 1199 [(0, .ref q1), (1, .ref (A 0)), (2, .ref (A 179)), (3, .ref (A 517)), (4, .int (Int32.ofInt i))] [] (Wd A dT s) ce sl := by
  have F : Fm [22, 23, 24, 34, 35, 73, 77, 75, 78, 79, 80, 81, 89] [33, 26, 27, 28, 29, 30, 31, 32, 20, 48, 47, 49, 50, 51, 1460, 161, 230, 202, 204, 205, 206, 207, 208, 209, 210, 211, 212, 213, 214, 215, 216, 217, 218, 219, 220, 221, 222, 223, 224, 225, 226, 227, 203, 395, 396, 245, 246, 247, 248, 249, 250, 251, 252, 253, 254, 255, 256, 257, 258, 259, 260, 261, 262, 263, 264, 265, 266, 267, 268, 269, 270, 271, 272, 273, 274, 275, 276, 277, 278, 279, 280, 281, 282, 283, 284, 285, 286, 287, 288, 289, 290, 291, 292, 293, 294, 295, 296, 297, 298, 299, 300, 301, 302, 303, 304, 305, 306, 307, 308, 309, 310, 311, 312, 313, 314, 315, 316, 317, 318, 319, 320, 321, 322, 323, 324, 325, 326, 327, 328, 329, 330, 331, 332, 333, 334, 335, 336, 337, 338, 339, 340, 341, 342, 343, 344, 345, 346, 347, 348, 349, 350, 351, 352, 353, 354, 355, 356, 357, 358, 359, 360, 361, 362, 363, 364, 365, 366, 367, 368, 369, 370, 371, 372, 373, 374, 375, 376, 377, 378, 379, 380, 381, 382, 383, 384, 385, 386, 387, 388, 389, 390, 391, 392, 393, 394] s s := fm_rf _ _ s
  have b1 := bi_12 I
  have b2 := bi_89 I
  refine z_aload_n X (x := A 0) rfl (List.Mem.tail _ (List.Mem.head _)) (z_aload_n X (x := q1) rfl (List.Mem.head _) (z_load X (x := i) rfl (List.Mem.tail _ (List.Mem.tail _ (List.Mem.tail _ (List.Mem.tail _ (List.Mem.head _))))) (z_const X rfl (z_add X rfl (z_sld X S hL rfl (show 0 ≤ (i + 1) ∧ (i + 1) < (L : Int) by first | exact sx_in hi (by decide) | omega) ?_)))))
  have sr3 : rng (sc xs (i + 1)) := sc_rng
  refine z_aload_n X (x := q1) rfl (List.Mem.head _) (z_load X (x := i) rfl (List.Mem.tail _ (List.Mem.tail _ (List.Mem.tail _ (List.Mem.tail _ (List.Mem.head _))))) (z_const X rfl (z_add X rfl (z_sld X S hL rfl (show 0 ≤ (i + 2) ∧ (i + 2) < (L : Int) by first | exact sx_in hi (by decide) | omega) ?_))))
  have sr4 : rng (sc xs (i + 2)) := sc_rng
  refine z_aload_n X (x := A 517) rfl (List.Mem.tail _ (List.Mem.tail _ (List.Mem.tail _ (List.Mem.head _)))) (z_callL X (rm := rmN 337) (As := [.ref (A 0), .int (Int32.ofInt (sc xs (i + 1))), .int (Int32.ofInt (sc xs (i + 2))), .ref (A 517)]) (st := []) rfl (by decide) rfl (by rw [E.1, E.2.1, E.2.2.1]; exact lw_plan G I (by omega) (by omega) (by omega)) ⟨by rw [E.2.2.2]; exact (show 13 + 1 ≤ 2048 by decide), by rw [E.2.2.2]; exact (show 8 + (5 + 11) + 273 ≤ 84000 by decide), by rw [E.2.2.2]; exact (show ce + 2 ≤ 601024 by first | exact rmo_1 hce (by decide) | exact rmo_2 hce (by decide) | omega), by rw [E.2.2.2]; exact (show sl + 12 ≤ 7293034 by first | exact rmo_1 hsl (by decide) | exact rmo_2 hsl (by decide) | omega)⟩ (Nat.le_of_ble_eq_true rfl) (fun vv A s5 hA2 hq => ?_) (fun ee A s5 hA2 hq => ?_))
  rotate_left
  · obtain ⟨Is5, Fs5, e6, hv, hrs5, hps5⟩ := hq; cases hv
  obtain ⟨Is5, Fs5, e6, hv, hrs5, hps5⟩ := hq
  cases hv
  rw [← hA2 0 (by decide)]
  rw [← hA2 179 (by decide)]
  rw [← hA2 517 (by decide)]
  have Gs5 := fm_tq F Fs5 rfl rfl
  have JRLx_s5 : RLx s5 := RLx_fm Fs5 (by decide) jR
  have JSEQ_s5 : SEQ s5 := SEQ_fm Fs5 (by decide) jSEQ
  have ws5_12 : iI s5 12 = iI s 12 := fm_iq Fs5 rfl
  have ws5_89 : iI s5 89 = iI s 89 := fm_iq Fs5 rfl
  show WS k 1216 [(0, .ref q1), (1, .ref (A 0)), (2, .ref (A 179)), (3, .ref (A 517)), (4, .int (Int32.ofInt i))] [.int (Int32.ofInt e6)] (Wd A dT s5) (ce + 2) (sl + 12)
  refine z_store X (lv' := [(5, .int (Int32.ofInt e6)), (0, .ref q1), (1, .ref (A 0)), (2, .ref (A 179)), (3, .ref (A 517)), (4, .int (Int32.ofInt i))]) rfl (by decide) (fun _ h => h) (z_aload_n X (x := A 179) rfl (List.Mem.tail _ (List.Mem.tail _ (List.Mem.tail _ (List.Mem.head _)))) (z_aload_n X (x := q1) rfl (List.Mem.tail _ (List.Mem.head _)) (z_load X (x := i) rfl (List.Mem.tail _ (List.Mem.tail _ (List.Mem.tail _ (List.Mem.tail _ (List.Mem.tail _ (List.Mem.head _)))))) (z_const X rfl (z_add X rfl (z_sld X S hL rfl (show 0 ≤ (i + 1) ∧ (i + 1) < (L : Int) by first | exact sx_in hi (by decide) | omega) ?_))))))
  have sr7 : rng (sc xs (i + 1)) := sc_rng
  refine z_aload_n X (x := q1) rfl (List.Mem.tail _ (List.Mem.head _)) (z_load X (x := i) rfl (List.Mem.tail _ (List.Mem.tail _ (List.Mem.tail _ (List.Mem.tail _ (List.Mem.tail _ (List.Mem.head _)))))) (z_const X rfl (z_add X rfl (z_sld X S hL rfl (show 0 ≤ (i + 2) ∧ (i + 2) < (L : Int) by first | exact sx_in hi (by decide) | omega) ?_))))
  have sr8 : rng (sc xs (i + 2)) := sc_rng
  refine z_callV X 179 (rm := rmN 272) (As := [.int (Int32.ofInt (sc xs (i + 1))), .int (Int32.ofInt (sc xs (i + 2)))]) (st := []) rfl rfl (by decide) rfl (by rw [E.1, E.2.1, E.2.2.1]; exact k_plan G Is5 JRLx_s5 (by first | exact ⟨sr7.1, sr7.2⟩ | omega) (by first | exact ⟨sr8.1, sr8.2⟩ | omega) (by first | exact oq_b44a1c7f ws5_89 p1 b2.1 | omega)) ⟨by rw [E.2.2.2]; exact (show 64 + 1 ≤ 2048 from oq_5cbe2cb6), by rw [E.2.2.2]; exact (show 8 + (6 + 11) + 2742 ≤ 84000 from oq_276d7037), by rw [E.2.2.2]; exact (show (ce + 2) + 0 ≤ 601024 by omega), by rw [E.2.2.2]; exact (show (sl + 12) + 0 ≤ 7293034 by omega)⟩ (Nat.le_of_ble_eq_true rfl) (fun vv s9 hq => ?_) (fun ee s9 hq => ?_)
  rotate_left
  · obtain ⟨Is9, Fs9, JRLx_s9, e10, hv, hrs9, hps9⟩ := hq; cases hv
  obtain ⟨Is9, Fs9, JRLx_s9, e10, hv, hrs9, hps9⟩ := hq
  cases hv
  have Gs9 := fm_ts Gs5 Fs9 (by decide) (by decide +kernel)
  have JRLx_s9 : RLx s9 := RLx_fm Fs9 (by decide) JRLx_s5
  have JSEQ_s9 : SEQ s9 := SEQ_fm Fs9 (by decide) JSEQ_s5
  have ws9_12 : iI s9 12 = iI s5 12 := fm_iq Fs9 rfl
  have b11 := bi_89 Is9
  have wos9 : iO s9 = iO s5 := fm_o Fs9 (by decide)
  show WS k 1234 [(5, .int (Int32.ofInt e6)), (0, .ref q1), (1, .ref (A 0)), (2, .ref (A 179)), (3, .ref (A 517)), (4, .int (Int32.ofInt i))] [.int (Int32.ofInt e10)] (Wd A dT s9) (ce + 2) (sl + 12)
  refine z_store X (lv' := [(6, .int (Int32.ofInt e10)), (5, .int (Int32.ofInt e6)), (0, .ref q1), (1, .ref (A 0)), (2, .ref (A 179)), (3, .ref (A 517)), (4, .int (Int32.ofInt i))]) rfl (by decide) (fun _ h => h) (z_goto X (t := 1901) rfl rfl (w_widen (ce' := ce + 29) (sl' := sl + 222) (by first | exact Nat.le_add_right _ _ | exact Nat.add_le_add_left (by decide) _ | omega) (by first | exact Nat.le_add_right _ _ | exact Nat.add_le_add_left (by decide) _ | omega) ?_))
  exact WS_lv (lv := [(0, .ref q1), (1, .ref (A 0)), (2, .ref (A 179)), (3, .ref (A 517)), (4, .int (Int32.ofInt i))]) (List.forall_mem_cons.mpr ⟨(List.Mem.tail _ (List.Mem.tail _ (List.Mem.head _))), (List.forall_mem_cons.mpr ⟨(List.Mem.tail _ (List.Mem.tail _ (List.Mem.tail _ (List.Mem.head _)))), (List.forall_mem_cons.mpr ⟨(List.Mem.tail _ (List.Mem.tail _ (List.Mem.tail _ (List.Mem.tail _ (List.Mem.head _))))), (List.forall_mem_cons.mpr ⟨(List.Mem.tail _ (List.Mem.tail _ (List.Mem.tail _ (List.Mem.tail _ (List.Mem.tail _ (List.Mem.head _)))))), (List.forall_mem_cons.mpr ⟨(List.Mem.tail _ (List.Mem.tail _ (List.Mem.tail _ (List.Mem.tail _ (List.Mem.tail _ (List.Mem.tail _ (List.Mem.head _))))))), (fun q h => absurd h List.not_mem_nil)⟩)⟩)⟩)⟩)⟩) (hk A _ Is9 JRLx_s9 JSEQ_s9 (by first | exact hps9 | omega) (by first | exact oq_d7ce4408 ws9_12 ws5_12 p2 | omega))
theorem lc_29 (G : GX l s0 D tys a0 dT) (GR : RS0 s0) (SF : SF0 s0) (GT : TXs0 s0) {k : kx_T} (X : AX k 350 dT) (E : kL k = l ∧ kS0 k = s0 ∧ kD k = D ∧ kR k = room_1) {q1 L : Nat} {xs : Nat → Int32} (S : SX k q1 L xs) (hL : L ≤ 3072) (I : Bd s) (jR : RLx s) (jSEQ : SEQ s) (p1 : iI s 89 = 1) (p2 : iI s 12 ≤ 8) {i : Int} (hi : 0 ≤ i ∧ i + 6 ≤ (L : Int)) {ce sl : Nat} (hce : ce + 29 ≤ 601024) (hsl : sl + 222 ≤ 7293034) (hk : ∀ (A : Nat → Nat) (t : PS), Bd t → RLx t → SEQ t → iI t 89 = 1 → iI t 12 ≤ 8 → WS k 1901 [(0, .ref q1), (1, .ref (A 0)), (2, .ref (A 179)), (3, .ref (A 517)), (4, .int (Int32.ofInt i))] [] (Wd A dT t) (ce + 29) (sl + 222)) : WS k 1239 [(0, .ref q1), (1, .ref (A 0)), (2, .ref (A 179)), (3, .ref (A 517)), (4, .int (Int32.ofInt i))] [] (Wd A dT s) ce sl := by
  have F : Fm [36, 37, 73, 102, 103] [1460] s s := fm_rf _ _ s
  have b1 := bi_12 I
  have b2 := bi_89 I
  refine z_aload_n X (x := A 0) rfl (List.Mem.tail _ (List.Mem.head _)) (z_aload_n X (x := q1) rfl (List.Mem.head _) (z_load X (x := i) rfl (List.Mem.tail _ (List.Mem.tail _ (List.Mem.tail _ (List.Mem.tail _ (List.Mem.head _))))) (z_const X rfl (z_add X rfl (z_sld X S hL rfl (show 0 ≤ (i + 1) ∧ (i + 1) < (L : Int) by first | exact sx_in hi (by decide) | omega) ?_)))))
  have sr3 : rng (sc xs (i + 1)) := sc_rng
  refine z_aload_n X (x := q1) rfl (List.Mem.head _) (z_load X (x := i) rfl (List.Mem.tail _ (List.Mem.tail _ (List.Mem.tail _ (List.Mem.tail _ (List.Mem.head _))))) (z_const X rfl (z_add X rfl (z_sld X S hL rfl (show 0 ≤ (i + 2) ∧ (i + 2) < (L : Int) by first | exact sx_in hi (by decide) | omega) ?_))))
  have sr4 : rng (sc xs (i + 2)) := sc_rng
  refine z_aload_n X (x := A 517) rfl (List.Mem.tail _ (List.Mem.tail _ (List.Mem.tail _ (List.Mem.head _)))) (z_callL X (rm := rmN 338) (As := [.ref (A 0), .int (Int32.ofInt (sc xs (i + 1))), .int (Int32.ofInt (sc xs (i + 2))), .ref (A 517)]) (st := []) rfl (by decide) rfl (by rw [E.1, E.2.1, E.2.2.1]; exact lw_hours G I (by omega) (by omega)) ⟨by rw [E.2.2.2]; exact (show 8 + 1 ≤ 2048 by decide), by rw [E.2.2.2]; exact (show 8 + (5 + 11) + 145 ≤ 84000 by decide), by rw [E.2.2.2]; exact (show ce + 2 ≤ 601024 by first | exact rmo_1 hce (by decide) | exact rmo_2 hce (by decide) | omega), by rw [E.2.2.2]; exact (show sl + 12 ≤ 7293034 by first | exact rmo_1 hsl (by decide) | exact rmo_2 hsl (by decide) | omega)⟩ (Nat.le_of_ble_eq_true rfl) (fun vv A s5 hA2 hq => ?_) (fun ee A s5 hA2 hq => ?_))
  rotate_left
  · obtain ⟨Is5, Fs5, e6, hv, hrs5, hps5⟩ := hq; cases hv
  obtain ⟨Is5, Fs5, e6, hv, hrs5, hps5⟩ := hq
  cases hv
  rw [← hA2 0 (by decide)]
  rw [← hA2 179 (by decide)]
  rw [← hA2 517 (by decide)]
  have Gs5 := fm_tq F Fs5 rfl rfl
  have JRLx_s5 : RLx s5 := RLx_fm Fs5 (by decide) jR
  have JSEQ_s5 : SEQ s5 := SEQ_fm Fs5 (by decide) jSEQ
  have ws5_12 : iI s5 12 = iI s 12 := fm_iq Fs5 rfl
  have ws5_89 : iI s5 89 = iI s 89 := fm_iq Fs5 rfl
  show WS k 1256 [(0, .ref q1), (1, .ref (A 0)), (2, .ref (A 179)), (3, .ref (A 517)), (4, .int (Int32.ofInt i))] [.int (Int32.ofInt e6)] (Wd A dT s5) (ce + 2) (sl + 12)
  refine z_store X (lv' := [(5, .int (Int32.ofInt e6)), (0, .ref q1), (1, .ref (A 0)), (2, .ref (A 179)), (3, .ref (A 517)), (4, .int (Int32.ofInt i))]) rfl (by decide) (fun _ h => h) (z_aload_n X (x := A 179) rfl (List.Mem.tail _ (List.Mem.tail _ (List.Mem.tail _ (List.Mem.head _)))) (z_aload_n X (x := q1) rfl (List.Mem.tail _ (List.Mem.head _)) (z_load X (x := i) rfl (List.Mem.tail _ (List.Mem.tail _ (List.Mem.tail _ (List.Mem.tail _ (List.Mem.tail _ (List.Mem.head _)))))) (z_const X rfl (z_add X rfl (z_sld X S hL rfl (show 0 ≤ (i + 1) ∧ (i + 1) < (L : Int) by first | exact sx_in hi (by decide) | omega) ?_))))))
  have sr7 : rng (sc xs (i + 1)) := sc_rng
  refine z_aload_n X (x := q1) rfl (List.Mem.tail _ (List.Mem.head _)) (z_load X (x := i) rfl (List.Mem.tail _ (List.Mem.tail _ (List.Mem.tail _ (List.Mem.tail _ (List.Mem.tail _ (List.Mem.head _)))))) (z_const X rfl (z_add X rfl (z_sld X S hL rfl (show 0 ≤ (i + 2) ∧ (i + 2) < (L : Int) by first | exact sx_in hi (by decide) | omega) ?_))))
  have sr8 : rng (sc xs (i + 2)) := sc_rng
  refine z_callV X 179 (rm := rmN 273) (As := [.int (Int32.ofInt (sc xs (i + 1))), .int (Int32.ofInt (sc xs (i + 2)))]) (st := []) rfl rfl (by decide) rfl (by rw [E.1, E.2.1, E.2.2.1]; exact k_hours G Is5 (by first | exact ⟨sr7.1, sr7.2⟩ | omega) (by first | exact ⟨sr8.1, sr8.2⟩ | omega)) ⟨by rw [E.2.2.2]; exact (show 7 + 1 ≤ 2048 from oq_4e6106eb), by rw [E.2.2.2]; exact (show 8 + (4 + 11) + 122 ≤ 84000 from oq_ebbf79c1), by rw [E.2.2.2]; exact (show (ce + 2) + 0 ≤ 601024 by omega), by rw [E.2.2.2]; exact (show (sl + 12) + 0 ≤ 7293034 by omega)⟩ (Nat.le_of_ble_eq_true rfl) (fun vv s9 hq => ?_) (fun ee s9 hq => ?_)
  rotate_left
  · obtain ⟨Is9, Fs9, e10, hv, hrs9, hps9⟩ := hq; cases hv
  obtain ⟨Is9, Fs9, e10, hv, hrs9, hps9⟩ := hq
  cases hv
  have Gs9 := fm_tq Gs5 Fs9 rfl rfl
  have JRLx_s9 : RLx s9 := RLx_fm Fs9 (by decide) JRLx_s5
  have JSEQ_s9 : SEQ s9 := SEQ_fm Fs9 (by decide) JSEQ_s5
  have ws9_12 : iI s9 12 = iI s5 12 := fm_iq Fs9 rfl
  have ws9_89 : iI s9 89 = iI s5 89 := fm_iq Fs9 rfl
  have wos9 : iO s9 = iO s5 := fm_o Fs9 (by decide)
  show WS k 1274 [(5, .int (Int32.ofInt e6)), (0, .ref q1), (1, .ref (A 0)), (2, .ref (A 179)), (3, .ref (A 517)), (4, .int (Int32.ofInt i))] [.int (Int32.ofInt e10)] (Wd A dT s9) (ce + 2) (sl + 12)
  refine z_store X (lv' := [(6, .int (Int32.ofInt e10)), (5, .int (Int32.ofInt e6)), (0, .ref q1), (1, .ref (A 0)), (2, .ref (A 179)), (3, .ref (A 517)), (4, .int (Int32.ofInt i))]) rfl (by decide) (fun _ h => h) (z_goto X (t := 1901) rfl rfl (w_widen (ce' := ce + 29) (sl' := sl + 222) (by first | exact Nat.le_add_right _ _ | exact Nat.add_le_add_left (by decide) _ | omega) (by first | exact Nat.le_add_right _ _ | exact Nat.add_le_add_left (by decide) _ | omega) ?_))
  exact WS_lv (lv := [(0, .ref q1), (1, .ref (A 0)), (2, .ref (A 179)), (3, .ref (A 517)), (4, .int (Int32.ofInt i))]) (List.forall_mem_cons.mpr ⟨(List.Mem.tail _ (List.Mem.tail _ (List.Mem.head _))), (List.forall_mem_cons.mpr ⟨(List.Mem.tail _ (List.Mem.tail _ (List.Mem.tail _ (List.Mem.head _)))), (List.forall_mem_cons.mpr ⟨(List.Mem.tail _ (List.Mem.tail _ (List.Mem.tail _ (List.Mem.tail _ (List.Mem.head _))))), (List.forall_mem_cons.mpr ⟨(List.Mem.tail _ (List.Mem.tail _ (List.Mem.tail _ (List.Mem.tail _ (List.Mem.tail _ (List.Mem.head _)))))), (List.forall_mem_cons.mpr ⟨(List.Mem.tail _ (List.Mem.tail _ (List.Mem.tail _ (List.Mem.tail _ (List.Mem.tail _ (List.Mem.tail _ (List.Mem.head _))))))), (fun q h => absurd h List.not_mem_nil)⟩)⟩)⟩)⟩)⟩) (hk A _ Is9 JRLx_s9 JSEQ_s9 (by first | exact oq_f34933ba ws9_89 ws5_89 p1 b2.1 | omega) (by first | exact oq_d7ce4408 ws9_12 ws5_12 p2 | omega))
theorem lc_30 (G : GX l s0 D tys a0 dT) (GR : RS0 s0) (SF : SF0 s0) (GT : TXs0 s0) {k : kx_T} (X : AX k 350 dT) (E : kL k = l ∧ kS0 k = s0 ∧ kD k = D ∧ kR k = room_1) {q1 L : Nat} {xs : Nat → Int32} (S : SX k q1 L xs) (hL : L ≤ 3072) (I : Bd s) (jR : RLx s) (jSEQ : SEQ s) (p1 : iI s 89 = 1) (p2 : iI s 12 ≤ 8) {i : Int} (hi : 0 ≤ i ∧ i + 6 ≤ (L : Int)) {ce sl : Nat} (hce : ce + 29 ≤ 601024) (hsl : sl + 222 ≤ 7293034) (hk : ∀ (A : Nat → Nat) (t : PS), Bd t → RLx t → SEQ t → iI t 89 = 1 → iI t 12 ≤ 8 → WS k 1901 [(0, .ref q1), (1, .ref (A 0)), (2, .ref (A 179)), (3, .ref (A 517)), (4, .int (Int32.ofInt i))] [] (Wd A dT t) (ce + 29) (sl + 222)) : WS k 1279 [(0, .ref q1), (1, .ref (A 0)), (2, .ref (A 179)), (3, .ref (A 517)), (4, .int (Int32.ofInt i))] [] (Wd A dT s) ce sl := by
  have F : Fm [73] [52, 1460, 398] s s := fm_rf _ _ s
  have b1 := bi_12 I
  have b2 := bi_89 I
  refine z_aload_n X (x := A 0) rfl (List.Mem.tail _ (List.Mem.head _)) (z_aload_n X (x := q1) rfl (List.Mem.head _) (z_load X (x := i) rfl (List.Mem.tail _ (List.Mem.tail _ (List.Mem.tail _ (List.Mem.tail _ (List.Mem.head _))))) (z_const X rfl (z_add X rfl (z_sld X S hL rfl (show 0 ≤ (i + 1) ∧ (i + 1) < (L : Int) by first | exact sx_in hi (by decide) | omega) ?_)))))
  have sr3 : rng (sc xs (i + 1)) := sc_rng
  refine z_aload_n X (x := q1) rfl (List.Mem.head _) (z_load X (x := i) rfl (List.Mem.tail _ (List.Mem.tail _ (List.Mem.tail _ (List.Mem.tail _ (List.Mem.head _))))) (z_const X rfl (z_add X rfl (z_sld X S hL rfl (show 0 ≤ (i + 2) ∧ (i + 2) < (L : Int) by first | exact sx_in hi (by decide) | omega) ?_))))
  have sr4 : rng (sc xs (i + 2)) := sc_rng
  refine z_aload_n X (x := A 517) rfl (List.Mem.tail _ (List.Mem.tail _ (List.Mem.tail _ (List.Mem.head _)))) (z_callL X (rm := rmN 339) (As := [.ref (A 0), .int (Int32.ofInt (sc xs (i + 1))), .int (Int32.ofInt (sc xs (i + 2))), .ref (A 517)]) (st := []) rfl (by decide) rfl (by rw [E.1, E.2.1, E.2.2.1]; exact lw_ill G I (by omega) (by omega)) ⟨by rw [E.2.2.2]; exact (show 8 + 1 ≤ 2048 by decide), by rw [E.2.2.2]; exact (show 8 + (5 + 11) + 146 ≤ 84000 by decide), by rw [E.2.2.2]; exact (show ce + 2 ≤ 601024 by first | exact rmo_1 hce (by decide) | exact rmo_2 hce (by decide) | omega), by rw [E.2.2.2]; exact (show sl + 12 ≤ 7293034 by first | exact rmo_1 hsl (by decide) | exact rmo_2 hsl (by decide) | omega)⟩ (Nat.le_of_ble_eq_true rfl) (fun vv A s5 hA2 hq => ?_) (fun ee A s5 hA2 hq => ?_))
  rotate_left
  · obtain ⟨Is5, Fs5, e6, hv, hrs5, hps5⟩ := hq; cases hv
  obtain ⟨Is5, Fs5, e6, hv, hrs5, hps5⟩ := hq
  cases hv
  rw [← hA2 0 (by decide)]
  rw [← hA2 179 (by decide)]
  rw [← hA2 517 (by decide)]
  have Gs5 := fm_tq F Fs5 rfl rfl
  have JRLx_s5 : RLx s5 := RLx_fm Fs5 (by decide) jR
  have JSEQ_s5 : SEQ s5 := SEQ_fm Fs5 (by decide) jSEQ
  have ws5_12 : iI s5 12 = iI s 12 := fm_iq Fs5 rfl
  have ws5_89 : iI s5 89 = iI s 89 := fm_iq Fs5 rfl
  show WS k 1296 [(0, .ref q1), (1, .ref (A 0)), (2, .ref (A 179)), (3, .ref (A 517)), (4, .int (Int32.ofInt i))] [.int (Int32.ofInt e6)] (Wd A dT s5) (ce + 2) (sl + 12)
  refine z_store X (lv' := [(5, .int (Int32.ofInt e6)), (0, .ref q1), (1, .ref (A 0)), (2, .ref (A 179)), (3, .ref (A 517)), (4, .int (Int32.ofInt i))]) rfl (by decide) (fun _ h => h) (z_aload_n X (x := A 179) rfl (List.Mem.tail _ (List.Mem.tail _ (List.Mem.tail _ (List.Mem.head _)))) (z_aload_n X (x := q1) rfl (List.Mem.tail _ (List.Mem.head _)) (z_load X (x := i) rfl (List.Mem.tail _ (List.Mem.tail _ (List.Mem.tail _ (List.Mem.tail _ (List.Mem.tail _ (List.Mem.head _)))))) (z_const X rfl (z_add X rfl (z_sld X S hL rfl (show 0 ≤ (i + 1) ∧ (i + 1) < (L : Int) by first | exact sx_in hi (by decide) | omega) ?_))))))
  have sr7 : rng (sc xs (i + 1)) := sc_rng
  refine z_aload_n X (x := q1) rfl (List.Mem.tail _ (List.Mem.head _)) (z_load X (x := i) rfl (List.Mem.tail _ (List.Mem.tail _ (List.Mem.tail _ (List.Mem.tail _ (List.Mem.tail _ (List.Mem.head _)))))) (z_const X rfl (z_add X rfl (z_sld X S hL rfl (show 0 ≤ (i + 2) ∧ (i + 2) < (L : Int) by first | exact sx_in hi (by decide) | omega) ?_))))
  have sr8 : rng (sc xs (i + 2)) := sc_rng
  refine z_callV X 179 (rm := rmN 274) (As := [.int (Int32.ofInt (sc xs (i + 1))), .int (Int32.ofInt (sc xs (i + 2)))]) (st := []) rfl rfl (by decide) rfl (by rw [E.1, E.2.1, E.2.2.1]; exact k_ill G Is5 (by first | exact ⟨sr7.1, sr7.2⟩ | omega) (by first | exact ⟨sr8.1, sr8.2⟩ | omega)) ⟨by rw [E.2.2.2]; exact (show 7 + 1 ≤ 2048 from oq_4e6106eb), by rw [E.2.2.2]; exact (show 8 + (4 + 11) + 122 ≤ 84000 from oq_ebbf79c1), by rw [E.2.2.2]; exact (show (ce + 2) + 0 ≤ 601024 by omega), by rw [E.2.2.2]; exact (show (sl + 12) + 0 ≤ 7293034 by omega)⟩ (Nat.le_of_ble_eq_true rfl) (fun vv s9 hq => ?_) (fun ee s9 hq => ?_)
  rotate_left
  · obtain ⟨Is9, Fs9, e10, hv, hrs9, hps9⟩ := hq; cases hv
  obtain ⟨Is9, Fs9, e10, hv, hrs9, hps9⟩ := hq
  cases hv
  have Gs9 := fm_tq Gs5 Fs9 rfl rfl
  have JRLx_s9 : RLx s9 := RLx_fm Fs9 (by decide) JRLx_s5
  have JSEQ_s9 : SEQ s9 := SEQ_fm Fs9 (by decide) JSEQ_s5
  have ws9_12 : iI s9 12 = iI s5 12 := fm_iq Fs9 rfl
  have ws9_89 : iI s9 89 = iI s5 89 := fm_iq Fs9 rfl
  have wos9 : iO s9 = iO s5 := fm_o Fs9 (by decide)
  show WS k 1314 [(5, .int (Int32.ofInt e6)), (0, .ref q1), (1, .ref (A 0)), (2, .ref (A 179)), (3, .ref (A 517)), (4, .int (Int32.ofInt i))] [.int (Int32.ofInt e10)] (Wd A dT s9) (ce + 2) (sl + 12)
  refine z_store X (lv' := [(6, .int (Int32.ofInt e10)), (5, .int (Int32.ofInt e6)), (0, .ref q1), (1, .ref (A 0)), (2, .ref (A 179)), (3, .ref (A 517)), (4, .int (Int32.ofInt i))]) rfl (by decide) (fun _ h => h) (z_goto X (t := 1901) rfl rfl (w_widen (ce' := ce + 29) (sl' := sl + 222) (by first | exact Nat.le_add_right _ _ | exact Nat.add_le_add_left (by decide) _ | omega) (by first | exact Nat.le_add_right _ _ | exact Nat.add_le_add_left (by decide) _ | omega) ?_))
  exact WS_lv (lv := [(0, .ref q1), (1, .ref (A 0)), (2, .ref (A 179)), (3, .ref (A 517)), (4, .int (Int32.ofInt i))]) (List.forall_mem_cons.mpr ⟨(List.Mem.tail _ (List.Mem.tail _ (List.Mem.head _))), (List.forall_mem_cons.mpr ⟨(List.Mem.tail _ (List.Mem.tail _ (List.Mem.tail _ (List.Mem.head _)))), (List.forall_mem_cons.mpr ⟨(List.Mem.tail _ (List.Mem.tail _ (List.Mem.tail _ (List.Mem.tail _ (List.Mem.head _))))), (List.forall_mem_cons.mpr ⟨(List.Mem.tail _ (List.Mem.tail _ (List.Mem.tail _ (List.Mem.tail _ (List.Mem.tail _ (List.Mem.head _)))))), (List.forall_mem_cons.mpr ⟨(List.Mem.tail _ (List.Mem.tail _ (List.Mem.tail _ (List.Mem.tail _ (List.Mem.tail _ (List.Mem.tail _ (List.Mem.head _))))))), (fun q h => absurd h List.not_mem_nil)⟩)⟩)⟩)⟩)⟩) (hk A _ Is9 JRLx_s9 JSEQ_s9 (by first | exact oq_f34933ba ws9_89 ws5_89 p1 b2.1 | omega) (by first | exact oq_d7ce4408 ws9_12 ws5_12 p2 | omega))
theorem lc_31 (G : GX l s0 D tys a0 dT) (GR : RS0 s0) (SF : SF0 s0) (GT : TXs0 s0) {k : kx_T} (X : AX k 350 dT) (E : kL k = l ∧ kS0 k = s0 ∧ kD k = D ∧ kR k = room_1) {q1 L : Nat} {xs : Nat → Int32} (S : SX k q1 L xs) (hL : L ≤ 3072) (I : Bd s) (jR : RLx s) (jSEQ : SEQ s) (p1 : iI s 89 = 1) (p2 : iI s 12 ≤ 8) {i : Int} (hi : 0 ≤ i ∧ i + 6 ≤ (L : Int)) {ce sl : Nat} (hce : ce + 29 ≤ 601024) (hsl : sl + 222 ≤ 7293034) (hk : ∀ (A : Nat → Nat) (t : PS), Bd t → RLx t → SEQ t → iI t 89 = 1 → iI t 12 ≤ 8 → WS k 1901 [(0, .ref q1), (1, .ref (A 0)), (2, .ref (A 179)), (3, .ref (A 517)), (4, .int (Int32.ofInt i))] [] (Wd A dT t) (ce + 29) (sl + 222)) : WS k 1319 [(0, .ref q1), (1, .ref (A 0)), (2, .ref (A 179)), (3, .ref (A 517)), (4, .int (Int32.ofInt i))] [] (Wd A dT s) ce sl := by
  have F : Fm [22, 23, 24, 34, 35, 38, 73, 104, 77, 75, 78, 79, 80, 81, 89] [33, 26, 27, 28, 29, 30, 31, 32, 20, 48, 47, 49, 50, 51, 53, 54, 55, 56, 1460, 161, 230, 202, 204, 205, 206, 207, 208, 209, 210, 211, 212, 213, 214, 215, 216, 217, 218, 219, 220, 221, 222, 223, 224, 225, 226, 227, 203, 395, 396, 397, 245, 246, 247, 248, 249, 250, 251, 252, 253, 254, 255, 256, 257, 258, 259, 260, 261, 262, 263, 264, 265, 266, 267, 268, 269, 270, 271, 272, 273, 274, 275, 276, 277, 278, 279, 280, 281, 282, 283, 284, 285, 286, 287, 288, 289, 290, 291, 292, 293, 294, 295, 296, 297, 298, 299, 300, 301, 302, 303, 304, 305, 306, 307, 308, 309, 310, 311, 312, 313, 314, 315, 316, 317, 318, 319, 320, 321, 322, 323, 324, 325, 326, 327, 328, 329, 330, 331, 332, 333, 334, 335, 336, 337, 338, 339, 340, 341, 342, 343, 344, 345, 346, 347, 348, 349, 350, 351, 352, 353, 354, 355, 356, 357, 358, 359, 360, 361, 362, 363, 364, 365, 366, 367, 368, 369, 370, 371, 372, 373, 374, 375, 376, 377, 378, 379, 380, 381, 382, 383, 384, 385, 386, 387, 388, 389, 390, 391, 392, 393, 394] s s := fm_rf _ _ s
  have b1 := bi_12 I
  have b2 := bi_89 I
  refine z_aload_n X (x := A 0) rfl (List.Mem.tail _ (List.Mem.head _)) (z_aload_n X (x := q1) rfl (List.Mem.head _) (z_load X (x := i) rfl (List.Mem.tail _ (List.Mem.tail _ (List.Mem.tail _ (List.Mem.tail _ (List.Mem.head _))))) (z_const X rfl (z_add X rfl (z_sld X S hL rfl (show 0 ≤ (i + 1) ∧ (i + 1) < (L : Int) by first | exact sx_in hi (by decide) | omega) ?_)))))
  have sr3 : rng (sc xs (i + 1)) := sc_rng
  refine z_aload_n X (x := q1) rfl (List.Mem.head _) (z_load X (x := i) rfl (List.Mem.tail _ (List.Mem.tail _ (List.Mem.tail _ (List.Mem.tail _ (List.Mem.head _))))) (z_const X rfl (z_add X rfl (z_sld X S hL rfl (show 0 ≤ (i + 2) ∧ (i + 2) < (L : Int) by first | exact sx_in hi (by decide) | omega) ?_))))
  have sr4 : rng (sc xs (i + 2)) := sc_rng
  refine z_aload_n X (x := q1) rfl (List.Mem.head _) (z_load X (x := i) rfl (List.Mem.tail _ (List.Mem.tail _ (List.Mem.tail _ (List.Mem.tail _ (List.Mem.head _))))) (z_const X rfl (z_add X rfl (z_sld X S hL rfl (show 0 ≤ (i + 3) ∧ (i + 3) < (L : Int) by first | exact sx_in hi (by decide) | omega) ?_))))
  have sr5 : rng (sc xs (i + 3)) := sc_rng
  refine z_aload_n X (x := A 517) rfl (List.Mem.tail _ (List.Mem.tail _ (List.Mem.tail _ (List.Mem.head _)))) (z_callL X (rm := rmN 340) (As := [.ref (A 0), .int (Int32.ofInt (sc xs (i + 1))), .int (Int32.ofInt (sc xs (i + 2))), .int (Int32.ofInt (sc xs (i + 3))), .ref (A 517)]) (st := []) rfl (by decide) rfl (by rw [E.1, E.2.1, E.2.2.1]; exact lw_rota G I (by omega) (by omega) (by omega) (by omega)) ⟨by rw [E.2.2.2]; exact (show 13 + 1 ≤ 2048 by decide), by rw [E.2.2.2]; exact (show 8 + (6 + 11) + 274 ≤ 84000 by decide), by rw [E.2.2.2]; exact (show ce + 3 ≤ 601024 by first | exact rmo_1 hce (by decide) | exact rmo_2 hce (by decide) | omega), by rw [E.2.2.2]; exact (show sl + 18 ≤ 7293034 by first | exact rmo_1 hsl (by decide) | exact rmo_2 hsl (by decide) | omega)⟩ (Nat.le_of_ble_eq_true rfl) (fun vv A s6 hA2 hq => ?_) (fun ee A s6 hA2 hq => ?_))
  rotate_left
  · obtain ⟨Is6, Fs6, e7, hv, hrs6, hps6⟩ := hq; cases hv
  obtain ⟨Is6, Fs6, e7, hv, hrs6, hps6⟩ := hq
  cases hv
  rw [← hA2 0 (by decide)]
  rw [← hA2 179 (by decide)]
  rw [← hA2 517 (by decide)]
  have Gs6 := fm_tq F Fs6 rfl rfl
  have JRLx_s6 : RLx s6 := RLx_fm Fs6 (by decide) jR
  have JSEQ_s6 : SEQ s6 := SEQ_fm Fs6 (by decide) jSEQ
  have ws6_12 : iI s6 12 = iI s 12 := fm_iq Fs6 rfl
  have ws6_89 : iI s6 89 = iI s 89 := fm_iq Fs6 rfl
  show WS k 1342 [(0, .ref q1), (1, .ref (A 0)), (2, .ref (A 179)), (3, .ref (A 517)), (4, .int (Int32.ofInt i))] [.int (Int32.ofInt e7)] (Wd A dT s6) (ce + 3) (sl + 18)
  refine z_store X (lv' := [(5, .int (Int32.ofInt e7)), (0, .ref q1), (1, .ref (A 0)), (2, .ref (A 179)), (3, .ref (A 517)), (4, .int (Int32.ofInt i))]) rfl (by decide) (fun _ h => h) (z_aload_n X (x := A 179) rfl (List.Mem.tail _ (List.Mem.tail _ (List.Mem.tail _ (List.Mem.head _)))) (z_aload_n X (x := q1) rfl (List.Mem.tail _ (List.Mem.head _)) (z_load X (x := i) rfl (List.Mem.tail _ (List.Mem.tail _ (List.Mem.tail _ (List.Mem.tail _ (List.Mem.tail _ (List.Mem.head _)))))) (z_const X rfl (z_add X rfl (z_sld X S hL rfl (show 0 ≤ (i + 1) ∧ (i + 1) < (L : Int) by first | exact sx_in hi (by decide) | omega) ?_))))))
  have sr8 : rng (sc xs (i + 1)) := sc_rng
  refine z_aload_n X (x := q1) rfl (List.Mem.tail _ (List.Mem.head _)) (z_load X (x := i) rfl (List.Mem.tail _ (List.Mem.tail _ (List.Mem.tail _ (List.Mem.tail _ (List.Mem.tail _ (List.Mem.head _)))))) (z_const X rfl (z_add X rfl (z_sld X S hL rfl (show 0 ≤ (i + 2) ∧ (i + 2) < (L : Int) by first | exact sx_in hi (by decide) | omega) ?_))))
  have sr9 : rng (sc xs (i + 2)) := sc_rng
  refine z_aload_n X (x := q1) rfl (List.Mem.tail _ (List.Mem.head _)) (z_load X (x := i) rfl (List.Mem.tail _ (List.Mem.tail _ (List.Mem.tail _ (List.Mem.tail _ (List.Mem.tail _ (List.Mem.head _)))))) (z_const X rfl (z_add X rfl (z_sld X S hL rfl (show 0 ≤ (i + 3) ∧ (i + 3) < (L : Int) by first | exact sx_in hi (by decide) | omega) ?_))))
  have sr10 : rng (sc xs (i + 3)) := sc_rng
  refine z_callV X 179 (rm := rmN 276) (As := [.int (Int32.ofInt (sc xs (i + 1))), .int (Int32.ofInt (sc xs (i + 2))), .int (Int32.ofInt (sc xs (i + 3)))]) (st := []) rfl rfl (by decide) rfl (by rw [E.1, E.2.1, E.2.2.1]; exact k_rota G Is6 JRLx_s6 (by first | exact ⟨sr8.1, sr8.2⟩ | omega) (by first | exact ⟨sr9.1, sr9.2⟩ | omega) (by first | exact ⟨sr10.1, sr10.2⟩ | omega) (by first | exact oq_b44a1c7f ws6_89 p1 b2.1 | omega)) ⟨by rw [E.2.2.2]; exact (show 64 + 1 ≤ 2048 from oq_5cbe2cb6), by rw [E.2.2.2]; exact (show 8 + (4 + 11) + 2742 ≤ 84000 from oq_31d93303), by rw [E.2.2.2]; exact (show (ce + 3) + 3 ≤ 601024 by omega), by rw [E.2.2.2]; exact (show (sl + 18) + 24 ≤ 7293034 by omega)⟩ (Nat.le_of_ble_eq_true rfl) (fun vv s11 hq => ?_) (fun ee s11 hq => ?_)
  rotate_left
  · obtain ⟨Is11, Fs11, JRLx_s11, e12, hv, hrs11, hps11⟩ := hq; cases hv
  obtain ⟨Is11, Fs11, JRLx_s11, e12, hv, hrs11, hps11⟩ := hq
  cases hv
  have Gs11 := fm_ts Gs6 Fs11 (by decide) (by decide +kernel)
  have JRLx_s11 : RLx s11 := RLx_fm Fs11 (by decide) JRLx_s6
  have JSEQ_s11 : SEQ s11 := SEQ_fm Fs11 (by decide) JSEQ_s6
  have ws11_12 : iI s11 12 = iI s6 12 := fm_iq Fs11 rfl
  have b13 := bi_89 Is11
  have wos11 : iO s11 = iO s6 := fm_o Fs11 (by decide)
  show WS k 1366 [(5, .int (Int32.ofInt e7)), (0, .ref q1), (1, .ref (A 0)), (2, .ref (A 179)), (3, .ref (A 517)), (4, .int (Int32.ofInt i))] [.int (Int32.ofInt e12)] (Wd A dT s11) ((ce + 3) + 3) ((sl + 18) + 24)
  refine z_store X (lv' := [(6, .int (Int32.ofInt e12)), (5, .int (Int32.ofInt e7)), (0, .ref q1), (1, .ref (A 0)), (2, .ref (A 179)), (3, .ref (A 517)), (4, .int (Int32.ofInt i))]) rfl (by decide) (fun _ h => h) (z_goto X (t := 1901) rfl rfl (w_widen (ce' := ce + 29) (sl' := sl + 222) (by first | exact Nat.le_add_right _ _ | exact Nat.add_le_add_left (by decide) _ | omega) (by first | exact Nat.le_add_right _ _ | exact Nat.add_le_add_left (by decide) _ | omega) ?_))
  exact WS_lv (lv := [(0, .ref q1), (1, .ref (A 0)), (2, .ref (A 179)), (3, .ref (A 517)), (4, .int (Int32.ofInt i))]) (List.forall_mem_cons.mpr ⟨(List.Mem.tail _ (List.Mem.tail _ (List.Mem.head _))), (List.forall_mem_cons.mpr ⟨(List.Mem.tail _ (List.Mem.tail _ (List.Mem.tail _ (List.Mem.head _)))), (List.forall_mem_cons.mpr ⟨(List.Mem.tail _ (List.Mem.tail _ (List.Mem.tail _ (List.Mem.tail _ (List.Mem.head _))))), (List.forall_mem_cons.mpr ⟨(List.Mem.tail _ (List.Mem.tail _ (List.Mem.tail _ (List.Mem.tail _ (List.Mem.tail _ (List.Mem.head _)))))), (List.forall_mem_cons.mpr ⟨(List.Mem.tail _ (List.Mem.tail _ (List.Mem.tail _ (List.Mem.tail _ (List.Mem.tail _ (List.Mem.tail _ (List.Mem.head _))))))), (fun q h => absurd h List.not_mem_nil)⟩)⟩)⟩)⟩)⟩) (hk A _ Is11 JRLx_s11 JSEQ_s11 (by first | exact hps11 | omega) (by first | exact oq_d7ce4408 ws11_12 ws6_12 p2 | omega))
theorem lc_32 (G : GX l s0 D tys a0 dT) (GR : RS0 s0) (SF : SF0 s0) (GT : TXs0 s0) {k : kx_T} (X : AX k 350 dT) (E : kL k = l ∧ kS0 k = s0 ∧ kD k = D ∧ kR k = room_1) {q1 L : Nat} {xs : Nat → Int32} (S : SX k q1 L xs) (hL : L ≤ 3072) (I : Bd s) (jR : RLx s) (jSEQ : SEQ s) (p1 : iI s 89 = 1) (p2 : iI s 12 ≤ 8) {i : Int} (hi : 0 ≤ i ∧ i + 6 ≤ (L : Int)) {ce sl : Nat} (hce : ce + 29 ≤ 601024) (hsl : sl + 222 ≤ 7293034) (hk : ∀ (A : Nat → Nat) (t : PS), Bd t → RLx t → SEQ t → iI t 89 = 1 → iI t 12 ≤ 8 → WS k 1901 [(0, .ref q1), (1, .ref (A 0)), (2, .ref (A 179)), (3, .ref (A 517)), (4, .int (Int32.ofInt i))] [] (Wd A dT t) (ce + 29) (sl + 222)) : WS k 1371 [(0, .ref q1), (1, .ref (A 0)), (2, .ref (A 179)), (3, .ref (A 517)), (4, .int (Int32.ofInt i))] [] (Wd A dT s) ce sl := by
  have F : Fm [22, 23, 24, 34, 35, 38, 73, 104, 77, 75, 78, 79, 80, 81, 89] [33, 26, 27, 28, 29, 30, 31, 32, 20, 48, 47, 49, 50, 51, 53, 54, 55, 56, 1460, 161, 230, 202, 204, 205, 206, 207, 208, 209, 210, 211, 212, 213, 214, 215, 216, 217, 218, 219, 220, 221, 222, 223, 224, 225, 226, 227, 203, 395, 396, 397, 245, 246, 247, 248, 249, 250, 251, 252, 253, 254, 255, 256, 257, 258, 259, 260, 261, 262, 263, 264, 265, 266, 267, 268, 269, 270, 271, 272, 273, 274, 275, 276, 277, 278, 279, 280, 281, 282, 283, 284, 285, 286, 287, 288, 289, 290, 291, 292, 293, 294, 295, 296, 297, 298, 299, 300, 301, 302, 303, 304, 305, 306, 307, 308, 309, 310, 311, 312, 313, 314, 315, 316, 317, 318, 319, 320, 321, 322, 323, 324, 325, 326, 327, 328, 329, 330, 331, 332, 333, 334, 335, 336, 337, 338, 339, 340, 341, 342, 343, 344, 345, 346, 347, 348, 349, 350, 351, 352, 353, 354, 355, 356, 357, 358, 359, 360, 361, 362, 363, 364, 365, 366, 367, 368, 369, 370, 371, 372, 373, 374, 375, 376, 377, 378, 379, 380, 381, 382, 383, 384, 385, 386, 387, 388, 389, 390, 391, 392, 393, 394] s s := fm_rf _ _ s
  have b1 := bi_12 I
  have b2 := bi_89 I
  refine z_aload_n X (x := A 0) rfl (List.Mem.tail _ (List.Mem.head _)) (z_aload_n X (x := q1) rfl (List.Mem.head _) (z_load X (x := i) rfl (List.Mem.tail _ (List.Mem.tail _ (List.Mem.tail _ (List.Mem.tail _ (List.Mem.head _))))) (z_const X rfl (z_add X rfl (z_sld X S hL rfl (show 0 ≤ (i + 1) ∧ (i + 1) < (L : Int) by first | exact sx_in hi (by decide) | omega) ?_)))))
  have sr3 : rng (sc xs (i + 1)) := sc_rng
  refine z_aload_n X (x := q1) rfl (List.Mem.head _) (z_load X (x := i) rfl (List.Mem.tail _ (List.Mem.tail _ (List.Mem.tail _ (List.Mem.tail _ (List.Mem.head _))))) (z_const X rfl (z_add X rfl (z_sld X S hL rfl (show 0 ≤ (i + 2) ∧ (i + 2) < (L : Int) by first | exact sx_in hi (by decide) | omega) ?_))))
  have sr4 : rng (sc xs (i + 2)) := sc_rng
  refine z_aload_n X (x := A 517) rfl (List.Mem.tail _ (List.Mem.tail _ (List.Mem.tail _ (List.Mem.head _)))) (z_callL X (rm := rmN 341) (As := [.ref (A 0), .int (Int32.ofInt (sc xs (i + 1))), .int (Int32.ofInt (sc xs (i + 2))), .ref (A 517)]) (st := []) rfl (by decide) rfl (by rw [E.1, E.2.1, E.2.2.1]; exact lw_lacks G I (by omega) (by omega) (by omega)) ⟨by rw [E.2.2.2]; exact (show 13 + 1 ≤ 2048 by decide), by rw [E.2.2.2]; exact (show 8 + (5 + 11) + 273 ≤ 84000 by decide), by rw [E.2.2.2]; exact (show ce + 2 ≤ 601024 by first | exact rmo_1 hce (by decide) | exact rmo_2 hce (by decide) | omega), by rw [E.2.2.2]; exact (show sl + 12 ≤ 7293034 by first | exact rmo_1 hsl (by decide) | exact rmo_2 hsl (by decide) | omega)⟩ (Nat.le_of_ble_eq_true rfl) (fun vv A s5 hA2 hq => ?_) (fun ee A s5 hA2 hq => ?_))
  rotate_left
  · obtain ⟨Is5, Fs5, e6, hv, hrs5, hps5⟩ := hq; cases hv
  obtain ⟨Is5, Fs5, e6, hv, hrs5, hps5⟩ := hq
  cases hv
  rw [← hA2 0 (by decide)]
  rw [← hA2 179 (by decide)]
  rw [← hA2 517 (by decide)]
  have Gs5 := fm_tq F Fs5 rfl rfl
  have JRLx_s5 : RLx s5 := RLx_fm Fs5 (by decide) jR
  have JSEQ_s5 : SEQ s5 := SEQ_fm Fs5 (by decide) jSEQ
  have ws5_12 : iI s5 12 = iI s 12 := fm_iq Fs5 rfl
  have ws5_89 : iI s5 89 = iI s 89 := fm_iq Fs5 rfl
  show WS k 1388 [(0, .ref q1), (1, .ref (A 0)), (2, .ref (A 179)), (3, .ref (A 517)), (4, .int (Int32.ofInt i))] [.int (Int32.ofInt e6)] (Wd A dT s5) (ce + 2) (sl + 12)
  refine z_store X (lv' := [(5, .int (Int32.ofInt e6)), (0, .ref q1), (1, .ref (A 0)), (2, .ref (A 179)), (3, .ref (A 517)), (4, .int (Int32.ofInt i))]) rfl (by decide) (fun _ h => h) (z_aload_n X (x := A 179) rfl (List.Mem.tail _ (List.Mem.tail _ (List.Mem.tail _ (List.Mem.head _)))) (z_aload_n X (x := q1) rfl (List.Mem.tail _ (List.Mem.head _)) (z_load X (x := i) rfl (List.Mem.tail _ (List.Mem.tail _ (List.Mem.tail _ (List.Mem.tail _ (List.Mem.tail _ (List.Mem.head _)))))) (z_const X rfl (z_add X rfl (z_sld X S hL rfl (show 0 ≤ (i + 1) ∧ (i + 1) < (L : Int) by first | exact sx_in hi (by decide) | omega) ?_))))))
  have sr7 : rng (sc xs (i + 1)) := sc_rng
  refine z_aload_n X (x := q1) rfl (List.Mem.tail _ (List.Mem.head _)) (z_load X (x := i) rfl (List.Mem.tail _ (List.Mem.tail _ (List.Mem.tail _ (List.Mem.tail _ (List.Mem.tail _ (List.Mem.head _)))))) (z_const X rfl (z_add X rfl (z_sld X S hL rfl (show 0 ≤ (i + 2) ∧ (i + 2) < (L : Int) by first | exact sx_in hi (by decide) | omega) ?_))))
  have sr8 : rng (sc xs (i + 2)) := sc_rng
  refine z_callV X 179 (rm := rmN 277) (As := [.int (Int32.ofInt (sc xs (i + 1))), .int (Int32.ofInt (sc xs (i + 2)))]) (st := []) rfl rfl (by decide) rfl (by rw [E.1, E.2.1, E.2.2.1]; exact k_lacks G Is5 JRLx_s5 (by first | exact ⟨sr7.1, sr7.2⟩ | omega) (by first | exact ⟨sr8.1, sr8.2⟩ | omega) (by first | exact oq_b44a1c7f ws5_89 p1 b2.1 | omega)) ⟨by rw [E.2.2.2]; exact (show 64 + 1 ≤ 2048 from oq_5cbe2cb6), by rw [E.2.2.2]; exact (show 8 + (3 + 11) + 2742 ≤ 84000 from oq_151ba25b), by rw [E.2.2.2]; exact (show (ce + 2) + 3 ≤ 601024 by omega), by rw [E.2.2.2]; exact (show (sl + 12) + 24 ≤ 7293034 by omega)⟩ (Nat.le_of_ble_eq_true rfl) (fun vv s9 hq => ?_) (fun ee s9 hq => ?_)
  rotate_left
  · obtain ⟨Is9, Fs9, JRLx_s9, e10, hv, hrs9, hps9⟩ := hq; cases hv
  obtain ⟨Is9, Fs9, JRLx_s9, e10, hv, hrs9, hps9⟩ := hq
  cases hv
  have Gs9 := fm_ts Gs5 Fs9 (by decide) (by decide +kernel)
  have JRLx_s9 : RLx s9 := RLx_fm Fs9 (by decide) JRLx_s5
  have JSEQ_s9 : SEQ s9 := SEQ_fm Fs9 (by decide) JSEQ_s5
  have ws9_12 : iI s9 12 = iI s5 12 := fm_iq Fs9 rfl
  have b11 := bi_89 Is9
  have wos9 : iO s9 = iO s5 := fm_o Fs9 (by decide)
  show WS k 1406 [(5, .int (Int32.ofInt e6)), (0, .ref q1), (1, .ref (A 0)), (2, .ref (A 179)), (3, .ref (A 517)), (4, .int (Int32.ofInt i))] [.int (Int32.ofInt e10)] (Wd A dT s9) ((ce + 2) + 3) ((sl + 12) + 24)
  refine z_store X (lv' := [(6, .int (Int32.ofInt e10)), (5, .int (Int32.ofInt e6)), (0, .ref q1), (1, .ref (A 0)), (2, .ref (A 179)), (3, .ref (A 517)), (4, .int (Int32.ofInt i))]) rfl (by decide) (fun _ h => h) (z_goto X (t := 1901) rfl rfl (w_widen (ce' := ce + 29) (sl' := sl + 222) (by first | exact Nat.le_add_right _ _ | exact Nat.add_le_add_left (by decide) _ | omega) (by first | exact Nat.le_add_right _ _ | exact Nat.add_le_add_left (by decide) _ | omega) ?_))
  exact WS_lv (lv := [(0, .ref q1), (1, .ref (A 0)), (2, .ref (A 179)), (3, .ref (A 517)), (4, .int (Int32.ofInt i))]) (List.forall_mem_cons.mpr ⟨(List.Mem.tail _ (List.Mem.tail _ (List.Mem.head _))), (List.forall_mem_cons.mpr ⟨(List.Mem.tail _ (List.Mem.tail _ (List.Mem.tail _ (List.Mem.head _)))), (List.forall_mem_cons.mpr ⟨(List.Mem.tail _ (List.Mem.tail _ (List.Mem.tail _ (List.Mem.tail _ (List.Mem.head _))))), (List.forall_mem_cons.mpr ⟨(List.Mem.tail _ (List.Mem.tail _ (List.Mem.tail _ (List.Mem.tail _ (List.Mem.tail _ (List.Mem.head _)))))), (List.forall_mem_cons.mpr ⟨(List.Mem.tail _ (List.Mem.tail _ (List.Mem.tail _ (List.Mem.tail _ (List.Mem.tail _ (List.Mem.tail _ (List.Mem.head _))))))), (fun q h => absurd h List.not_mem_nil)⟩)⟩)⟩)⟩)⟩) (hk A _ Is9 JRLx_s9 JSEQ_s9 (by first | exact hps9 | omega) (by first | exact oq_d7ce4408 ws9_12 ws5_12 p2 | omega))
theorem lc_33 (G : GX l s0 D tys a0 dT) (GR : RS0 s0) (SF : SF0 s0) (GT : TXs0 s0) {k : kx_T} (X : AX k 350 dT) (E : kL k = l ∧ kS0 k = s0 ∧ kD k = D ∧ kR k = room_1) {q1 L : Nat} {xs : Nat → Int32} (S : SX k q1 L xs) (hL : L ≤ 3072) (I : Bd s) (jR : RLx s) (jSEQ : SEQ s) (p1 : iI s 89 = 1) (p2 : iI s 12 ≤ 8) {i : Int} (hi : 0 ≤ i ∧ i + 6 ≤ (L : Int)) {ce sl : Nat} (hce : ce + 29 ≤ 601024) (hsl : sl + 222 ≤ 7293034) (hk : ∀ (A : Nat → Nat) (t : PS), Bd t → RLx t → SEQ t → iI t 89 = 1 → iI t 12 ≤ 8 → WS k 1901 [(0, .ref q1), (1, .ref (A 0)), (2, .ref (A 179)), (3, .ref (A 517)), (4, .int (Int32.ofInt i))] [] (Wd A dT t) (ce + 29) (sl + 222)) : WS k 1411 [(0, .ref q1), (1, .ref (A 0)), (2, .ref (A 179)), (3, .ref (A 517)), (4, .int (Int32.ofInt i))] [] (Wd A dT s) ce sl := by
  have F : Fm [22, 23, 24, 34, 35, 38, 73, 104, 77, 75, 78, 79, 80, 81, 89] [33, 26, 27, 28, 29, 30, 31, 32, 20, 48, 47, 49, 50, 51, 53, 54, 55, 56, 1460, 161, 230, 202, 204, 205, 206, 207, 208, 209, 210, 211, 212, 213, 214, 215, 216, 217, 218, 219, 220, 221, 222, 223, 224, 225, 226, 227, 203, 395, 396, 397, 245, 246, 247, 248, 249, 250, 251, 252, 253, 254, 255, 256, 257, 258, 259, 260, 261, 262, 263, 264, 265, 266, 267, 268, 269, 270, 271, 272, 273, 274, 275, 276, 277, 278, 279, 280, 281, 282, 283, 284, 285, 286, 287, 288, 289, 290, 291, 292, 293, 294, 295, 296, 297, 298, 299, 300, 301, 302, 303, 304, 305, 306, 307, 308, 309, 310, 311, 312, 313, 314, 315, 316, 317, 318, 319, 320, 321, 322, 323, 324, 325, 326, 327, 328, 329, 330, 331, 332, 333, 334, 335, 336, 337, 338, 339, 340, 341, 342, 343, 344, 345, 346, 347, 348, 349, 350, 351, 352, 353, 354, 355, 356, 357, 358, 359, 360, 361, 362, 363, 364, 365, 366, 367, 368, 369, 370, 371, 372, 373, 374, 375, 376, 377, 378, 379, 380, 381, 382, 383, 384, 385, 386, 387, 388, 389, 390, 391, 392, 393, 394] s s := fm_rf _ _ s
  have b1 := bi_12 I
  have b2 := bi_89 I
  refine z_aload_n X (x := A 0) rfl (List.Mem.tail _ (List.Mem.head _)) (z_aload_n X (x := q1) rfl (List.Mem.head _) (z_load X (x := i) rfl (List.Mem.tail _ (List.Mem.tail _ (List.Mem.tail _ (List.Mem.tail _ (List.Mem.head _))))) (z_const X rfl (z_add X rfl (z_sld X S hL rfl (show 0 ≤ (i + 1) ∧ (i + 1) < (L : Int) by first | exact sx_in hi (by decide) | omega) ?_)))))
  have sr3 : rng (sc xs (i + 1)) := sc_rng
  refine z_aload_n X (x := A 517) rfl (List.Mem.tail _ (List.Mem.tail _ (List.Mem.tail _ (List.Mem.head _)))) (z_callL X (rm := rmN 342) (As := [.ref (A 0), .int (Int32.ofInt (sc xs (i + 1))), .ref (A 517)]) (st := []) rfl (by decide) rfl (by rw [E.1, E.2.1, E.2.2.1]; exact lw_enough G I (by omega) (by omega)) ⟨by rw [E.2.2.2]; exact (show 13 + 1 ≤ 2048 by decide), by rw [E.2.2.2]; exact (show 8 + (4 + 11) + 273 ≤ 84000 by decide), by rw [E.2.2.2]; exact (show ce + 1 ≤ 601024 by first | exact rmo_1 hce (by decide) | exact rmo_2 hce (by decide) | omega), by rw [E.2.2.2]; exact (show sl + 6 ≤ 7293034 by first | exact rmo_1 hsl (by decide) | exact rmo_2 hsl (by decide) | omega)⟩ (Nat.le_of_ble_eq_true rfl) (fun vv A s4 hA2 hq => ?_) (fun ee A s4 hA2 hq => ?_))
  rotate_left
  · obtain ⟨Is4, Fs4, e5, hv, hrs4, hps4⟩ := hq; cases hv
  obtain ⟨Is4, Fs4, e5, hv, hrs4, hps4⟩ := hq
  cases hv
  rw [← hA2 0 (by decide)]
  rw [← hA2 179 (by decide)]
  rw [← hA2 517 (by decide)]
  have Gs4 := fm_tq F Fs4 rfl rfl
  have JRLx_s4 : RLx s4 := RLx_fm Fs4 (by decide) jR
  have JSEQ_s4 : SEQ s4 := SEQ_fm Fs4 (by decide) jSEQ
  have ws4_12 : iI s4 12 = iI s 12 := fm_iq Fs4 rfl
  have ws4_89 : iI s4 89 = iI s 89 := fm_iq Fs4 rfl
  show WS k 1422 [(0, .ref q1), (1, .ref (A 0)), (2, .ref (A 179)), (3, .ref (A 517)), (4, .int (Int32.ofInt i))] [.int (Int32.ofInt e5)] (Wd A dT s4) (ce + 1) (sl + 6)
  refine z_store X (lv' := [(5, .int (Int32.ofInt e5)), (0, .ref q1), (1, .ref (A 0)), (2, .ref (A 179)), (3, .ref (A 517)), (4, .int (Int32.ofInt i))]) rfl (by decide) (fun _ h => h) (z_aload_n X (x := A 179) rfl (List.Mem.tail _ (List.Mem.tail _ (List.Mem.tail _ (List.Mem.head _)))) (z_aload_n X (x := q1) rfl (List.Mem.tail _ (List.Mem.head _)) (z_load X (x := i) rfl (List.Mem.tail _ (List.Mem.tail _ (List.Mem.tail _ (List.Mem.tail _ (List.Mem.tail _ (List.Mem.head _)))))) (z_const X rfl (z_add X rfl (z_sld X S hL rfl (show 0 ≤ (i + 1) ∧ (i + 1) < (L : Int) by first | exact sx_in hi (by decide) | omega) ?_))))))
  have sr6 : rng (sc xs (i + 1)) := sc_rng
  refine z_callV X 179 (rm := rmN 278) (As := [.int (Int32.ofInt (sc xs (i + 1)))]) (st := []) rfl rfl (by decide) rfl (by rw [E.1, E.2.1, E.2.2.1]; exact k_enough G Is4 JRLx_s4 (by first | exact ⟨sr6.1, sr6.2⟩ | omega) (by first | exact oq_b44a1c7f ws4_89 p1 b2.1 | omega)) ⟨by rw [E.2.2.2]; exact (show 64 + 1 ≤ 2048 from oq_5cbe2cb6), by rw [E.2.2.2]; exact (show 8 + (3 + 11) + 2742 ≤ 84000 from oq_151ba25b), by rw [E.2.2.2]; exact (show (ce + 1) + 24 ≤ 601024 by omega), by rw [E.2.2.2]; exact (show (sl + 6) + 192 ≤ 7293034 by omega)⟩ (Nat.le_of_ble_eq_true rfl) (fun vv s7 hq => ?_) (fun ee s7 hq => ?_)
  rotate_left
  · obtain ⟨Is7, Fs7, JRLx_s7, e8, hv, hrs7, hps7⟩ := hq; cases hv
  obtain ⟨Is7, Fs7, JRLx_s7, e8, hv, hrs7, hps7⟩ := hq
  cases hv
  have Gs7 := fm_ts Gs4 Fs7 (by decide) (by decide +kernel)
  have JRLx_s7 : RLx s7 := RLx_fm Fs7 (by decide) JRLx_s4
  have JSEQ_s7 : SEQ s7 := SEQ_fm Fs7 (by decide) JSEQ_s4
  have ws7_12 : iI s7 12 = iI s4 12 := fm_iq Fs7 rfl
  have b9 := bi_89 Is7
  have wos7 : iO s7 = iO s4 := fm_o Fs7 (by decide)
  show WS k 1434 [(5, .int (Int32.ofInt e5)), (0, .ref q1), (1, .ref (A 0)), (2, .ref (A 179)), (3, .ref (A 517)), (4, .int (Int32.ofInt i))] [.int (Int32.ofInt e8)] (Wd A dT s7) ((ce + 1) + 24) ((sl + 6) + 192)
  refine z_store X (lv' := [(6, .int (Int32.ofInt e8)), (5, .int (Int32.ofInt e5)), (0, .ref q1), (1, .ref (A 0)), (2, .ref (A 179)), (3, .ref (A 517)), (4, .int (Int32.ofInt i))]) rfl (by decide) (fun _ h => h) (z_goto X (t := 1901) rfl rfl (w_widen (ce' := ce + 29) (sl' := sl + 222) (by first | exact Nat.le_add_right _ _ | exact Nat.add_le_add_left (by decide) _ | omega) (by first | exact Nat.le_add_right _ _ | exact Nat.add_le_add_left (by decide) _ | omega) ?_))
  exact WS_lv (lv := [(0, .ref q1), (1, .ref (A 0)), (2, .ref (A 179)), (3, .ref (A 517)), (4, .int (Int32.ofInt i))]) (List.forall_mem_cons.mpr ⟨(List.Mem.tail _ (List.Mem.tail _ (List.Mem.head _))), (List.forall_mem_cons.mpr ⟨(List.Mem.tail _ (List.Mem.tail _ (List.Mem.tail _ (List.Mem.head _)))), (List.forall_mem_cons.mpr ⟨(List.Mem.tail _ (List.Mem.tail _ (List.Mem.tail _ (List.Mem.tail _ (List.Mem.head _))))), (List.forall_mem_cons.mpr ⟨(List.Mem.tail _ (List.Mem.tail _ (List.Mem.tail _ (List.Mem.tail _ (List.Mem.tail _ (List.Mem.head _)))))), (List.forall_mem_cons.mpr ⟨(List.Mem.tail _ (List.Mem.tail _ (List.Mem.tail _ (List.Mem.tail _ (List.Mem.tail _ (List.Mem.tail _ (List.Mem.head _))))))), (fun q h => absurd h List.not_mem_nil)⟩)⟩)⟩)⟩)⟩) (hk A _ Is7 JRLx_s7 JSEQ_s7 (by first | exact hps7 | omega) (by first | exact oq_d7ce4408 ws7_12 ws4_12 p2 | omega))
theorem lc_34 (G : GX l s0 D tys a0 dT) (GR : RS0 s0) (SF : SF0 s0) (GT : TXs0 s0) {k : kx_T} (X : AX k 350 dT) (E : kL k = l ∧ kS0 k = s0 ∧ kD k = D ∧ kR k = room_1) {q1 L : Nat} {xs : Nat → Int32} (S : SX k q1 L xs) (hL : L ≤ 3072) (I : Bd s) (jR : RLx s) (jSEQ : SEQ s) (p1 : iI s 89 = 1) (p2 : iI s 12 ≤ 8) {i : Int} (hi : 0 ≤ i ∧ i + 6 ≤ (L : Int)) {ce sl : Nat} (hce : ce + 29 ≤ 601024) (hsl : sl + 222 ≤ 7293034) (hk : ∀ (A : Nat → Nat) (t : PS), Bd t → RLx t → SEQ t → iI t 89 = 1 → iI t 12 ≤ 8 → WS k 1901 [(0, .ref q1), (1, .ref (A 0)), (2, .ref (A 179)), (3, .ref (A 517)), (4, .int (Int32.ofInt i))] [] (Wd A dT t) (ce + 29) (sl + 222)) : WS k 1439 [(0, .ref q1), (1, .ref (A 0)), (2, .ref (A 179)), (3, .ref (A 517)), (4, .int (Int32.ofInt i))] [] (Wd A dT s) ce sl := by
  have F : Fm [1000, 1001, 73] [1460, 399] s s := fm_rf _ _ s
  have b1 := bi_12 I
  have b2 := bi_89 I
  refine z_aload_n X (x := A 0) rfl (List.Mem.tail _ (List.Mem.head _)) (z_aload_n X (x := q1) rfl (List.Mem.head _) (z_load X (x := i) rfl (List.Mem.tail _ (List.Mem.tail _ (List.Mem.tail _ (List.Mem.tail _ (List.Mem.head _))))) (z_const X rfl (z_add X rfl (z_sld X S hL rfl (show 0 ≤ (i + 1) ∧ (i + 1) < (L : Int) by first | exact sx_in hi (by decide) | omega) ?_)))))
  have sr3 : rng (sc xs (i + 1)) := sc_rng
  refine z_aload_n X (x := q1) rfl (List.Mem.head _) (z_load X (x := i) rfl (List.Mem.tail _ (List.Mem.tail _ (List.Mem.tail _ (List.Mem.tail _ (List.Mem.head _))))) (z_const X rfl (z_add X rfl (z_sld X S hL rfl (show 0 ≤ (i + 2) ∧ (i + 2) < (L : Int) by first | exact sx_in hi (by decide) | omega) ?_))))
  have sr4 : rng (sc xs (i + 2)) := sc_rng
  refine z_if_eq X (t := 1459) rfl rfl ⟨by first | exact sr4.1 | omega, by first | exact sr4.2 | omega⟩ (fun g5 => ?_) (fun g5 => ?_)
  ·
    refine z_const X rfl (z_aload_n X (x := A 517) rfl (List.Mem.tail _ (List.Mem.tail _ (List.Mem.tail _ (List.Mem.head _)))) (z_callL X (rm := rmN 343) (As := [.ref (A 0), .int (Int32.ofInt (sc xs (i + 1))), .int (Int32.ofInt 0), .ref (A 517)]) (st := []) rfl (by decide) rfl (by rw [E.1, E.2.1, E.2.2.1]; exact lw_storm2 G I (by omega) (by omega)) ⟨by rw [E.2.2.2]; exact (show 9 + 1 ≤ 2048 by decide), by rw [E.2.2.2]; exact (show 8 + (5 + 11) + 168 ≤ 84000 by decide), by rw [E.2.2.2]; exact (show ce + 1 ≤ 601024 by first | exact rmo_1 hce (by decide) | exact rmo_2 hce (by decide) | omega), by rw [E.2.2.2]; exact (show sl + 6 ≤ 7293034 by first | exact rmo_1 hsl (by decide) | exact rmo_2 hsl (by decide) | omega)⟩ (Nat.le_of_ble_eq_true rfl) (fun vv A s6 hA2 hq => ?_) (fun ee A s6 hA2 hq => ?_)))
    rotate_left
    · obtain ⟨Is6, Fs6, e7, hv, hrs6, hps6⟩ := hq; cases hv
    obtain ⟨Is6, Fs6, e7, hv, hrs6, hps6⟩ := hq
    cases hv
    rw [← hA2 0 (by decide)]
    rw [← hA2 179 (by decide)]
    rw [← hA2 517 (by decide)]
    have Gs6 := fm_tq F Fs6 rfl rfl
    have JRLx_s6 : RLx s6 := RLx_fm Fs6 (by decide) jR
    have ws6_12 : iI s6 12 = iI s 12 := fm_iq Fs6 rfl
    have ws6_89 : iI s6 89 = iI s 89 := fm_iq Fs6 rfl
    show WS k 1464 [(0, .ref q1), (1, .ref (A 0)), (2, .ref (A 179)), (3, .ref (A 517)), (4, .int (Int32.ofInt i))] [.int (Int32.ofInt e7)] (Wd A dT s6) (ce + 1) (sl + 6)
    refine z_store X (lv' := [(5, .int (Int32.ofInt e7)), (0, .ref q1), (1, .ref (A 0)), (2, .ref (A 179)), (3, .ref (A 517)), (4, .int (Int32.ofInt i))]) rfl (by decide) (fun _ h => h) (z_aload_n X (x := A 179) rfl (List.Mem.tail _ (List.Mem.tail _ (List.Mem.tail _ (List.Mem.head _)))) (z_aload_n X (x := q1) rfl (List.Mem.tail _ (List.Mem.head _)) (z_load X (x := i) rfl (List.Mem.tail _ (List.Mem.tail _ (List.Mem.tail _ (List.Mem.tail _ (List.Mem.tail _ (List.Mem.head _)))))) (z_const X rfl (z_add X rfl (z_sld X S hL rfl (show 0 ≤ (i + 1) ∧ (i + 1) < (L : Int) by first | exact sx_in hi (by decide) | omega) ?_))))))
    have sr8 : rng (sc xs (i + 1)) := sc_rng
    refine z_aload_n X (x := q1) rfl (List.Mem.tail _ (List.Mem.head _)) (z_load X (x := i) rfl (List.Mem.tail _ (List.Mem.tail _ (List.Mem.tail _ (List.Mem.tail _ (List.Mem.tail _ (List.Mem.head _)))))) (z_const X rfl (z_add X rfl (z_sld X S hL rfl (show 0 ≤ (i + 2) ∧ (i + 2) < (L : Int) by first | exact sx_in hi (by decide) | omega) ?_))))
    have sr9 : rng (sc xs (i + 2)) := sc_rng
    refine z_if_eq X (t := 1486) rfl rfl ⟨by first | exact sr9.1 | omega, by first | exact sr9.2 | omega⟩ (fun g10 => ?_) (fun g10 => ?_)
    ·
      refine z_const X rfl (z_callV X 179 (rm := rmN 279) (As := [.int (Int32.ofInt (sc xs (i + 1))), .int (Int32.ofInt 0)]) (st := []) rfl rfl (by decide) rfl (by rw [E.1, E.2.1, E.2.2.1]; exact k_storm2 G Is6 (by first | exact ⟨sr8.1, sr8.2⟩ | omega) (by first | exact Or.inl (by decide) | omega)) ⟨by rw [E.2.2.2]; exact (show 7 + 1 ≤ 2048 from oq_4e6106eb), by rw [E.2.2.2]; exact (show 8 + (4 + 11) + 122 ≤ 84000 from oq_ebbf79c1), by rw [E.2.2.2]; exact (show (ce + 1) + 0 ≤ 601024 by first | (clear hps6; omega) | omega), by rw [E.2.2.2]; exact (show (sl + 6) + 0 ≤ 7293034 by first | (clear hps6; omega) | omega)⟩ (Nat.le_of_ble_eq_true rfl) (fun vv s11 hq => ?_) (fun ee s11 hq => ?_))
      rotate_left
      · obtain ⟨Is11, Fs11, e12, hv, hrs11, hps11⟩ := hq; cases hv
      obtain ⟨Is11, Fs11, e12, hv, hrs11, hps11⟩ := hq
      cases hv
      have Gs11 := fm_tq Gs6 Fs11 rfl rfl
      have JRLx_s11 : RLx s11 := RLx_fm Fs11 (by decide) JRLx_s6
      have ws11_12 : iI s11 12 = iI s6 12 := fm_iq Fs11 rfl
      have ws11_89 : iI s11 89 = iI s6 89 := fm_iq Fs11 rfl
      have wos11 : iO s11 = iO s6 := fm_o Fs11 (by decide)
      show WS k 1490 [(5, .int (Int32.ofInt e7)), (0, .ref q1), (1, .ref (A 0)), (2, .ref (A 179)), (3, .ref (A 517)), (4, .int (Int32.ofInt i))] [.int (Int32.ofInt e12)] (Wd A dT s11) (ce + 1) (sl + 6)
      rcases hps6 with cc | cc
      ·
        rcases hps11 with mm | mm
        ·
          have jq13 : SEQ s11 := seq_same jSEQ (sbs_ts cc.2.2 (sbs_fm Fs11 (by decide))) (sam_ts (sam_fm Fs6 (by decide)) mm.2.2)
          refine z_store X (lv' := [(6, .int (Int32.ofInt e12)), (5, .int (Int32.ofInt e7)), (0, .ref q1), (1, .ref (A 0)), (2, .ref (A 179)), (3, .ref (A 517)), (4, .int (Int32.ofInt i))]) rfl (by decide) (fun _ h => h) (z_aload_n X (x := A 179) rfl (List.Mem.tail _ (List.Mem.tail _ (List.Mem.tail _ (List.Mem.tail _ (List.Mem.head _))))) (z_callV X 179 (rm := rmN 186) (As := []) (st := []) rfl rfl (by decide) rfl (by rw [E.1, E.2.1, E.2.2.1]; exact k_thrown2 G Is11 ) ⟨by rw [E.2.2.2]; exact (show 6 + 1 ≤ 2048 from oq_4d34cb53), by rw [E.2.2.2]; exact (show 8 + (1 + 11) + 100 ≤ 84000 from oq_a32dccc4), by rw [E.2.2.2]; exact (show (ce + 1) + 0 ≤ 601024 by first | (clear hps11 hps6; omega) | (clear hps6; omega) | omega), by rw [E.2.2.2]; exact (show (sl + 6) + 0 ≤ 7293034 by first | (clear hps11 hps6; omega) | (clear hps6; omega) | omega)⟩ (Nat.le_of_ble_eq_true rfl) (fun vv s14 hq => ?_) (fun ee s14 hq => ?_)))
          rotate_left
          · obtain ⟨rfl, e15, hv, hrs14, hps14⟩ := hq; cases hv
          obtain ⟨rfl, e15, hv, hrs14, hps14⟩ := hq
          cases hv
          show WS k 1496 [(6, .int (Int32.ofInt e12)), (5, .int (Int32.ofInt e7)), (0, .ref q1), (1, .ref (A 0)), (2, .ref (A 179)), (3, .ref (A 517)), (4, .int (Int32.ofInt i))] [.int (Int32.ofInt e15)] (Wd A dT s11) (ce + 1) (sl + 6)
          refine z_load X (x := e7) rfl (List.Mem.tail _ (List.Mem.head _)) (z_icmp_eq X (t := 1503) rfl rfl hrs14 ⟨by first | (clear hps11 hps6; omega) | (clear hps6; omega) | omega, by first | (clear hps11 hps6; omega) | (clear hps6; omega) | omega⟩ (fun g16 => ?_) (fun g16 => ?_))
          ·
            refine z_load X (x := e7) rfl (List.Mem.tail _ (List.Mem.head _)) (z_if_ne X (t := 1527) rfl rfl ⟨by first | (clear hps11 hps6; omega) | (clear hps6; omega) | omega, by first | (clear hps11 hps6; omega) | (clear hps6; omega) | omega⟩ (fun g17 => ?_) (fun g17 => ?_))
            ·
              refine z_goto X (t := 1901) rfl rfl (w_widen (ce' := ce + 29) (sl' := sl + 222) (by first | exact Nat.le_add_right _ _ | exact Nat.add_le_add_left (by decide) _ | omega) (by first | exact Nat.le_add_right _ _ | exact Nat.add_le_add_left (by decide) _ | omega) ?_)
              exact WS_lv (lv := [(0, .ref q1), (1, .ref (A 0)), (2, .ref (A 179)), (3, .ref (A 517)), (4, .int (Int32.ofInt i))]) (List.forall_mem_cons.mpr ⟨(List.Mem.tail _ (List.Mem.tail _ (List.Mem.head _))), (List.forall_mem_cons.mpr ⟨(List.Mem.tail _ (List.Mem.tail _ (List.Mem.tail _ (List.Mem.head _)))), (List.forall_mem_cons.mpr ⟨(List.Mem.tail _ (List.Mem.tail _ (List.Mem.tail _ (List.Mem.tail _ (List.Mem.head _))))), (List.forall_mem_cons.mpr ⟨(List.Mem.tail _ (List.Mem.tail _ (List.Mem.tail _ (List.Mem.tail _ (List.Mem.tail _ (List.Mem.head _)))))), (List.forall_mem_cons.mpr ⟨(List.Mem.tail _ (List.Mem.tail _ (List.Mem.tail _ (List.Mem.tail _ (List.Mem.tail _ (List.Mem.tail _ (List.Mem.head _))))))), (fun q h => absurd h List.not_mem_nil)⟩)⟩)⟩)⟩)⟩) (hk A _ Is11 JRLx_s11 jq13 (by first | exact oq_f34933ba ws11_89 ws6_89 p1 b2.1 | omega) (by first | exact oq_d7ce4408 ws11_12 ws6_12 p2 | omega))
            ·
              refine z_aload_n X (x := A 517) rfl (List.Mem.tail _ (List.Mem.tail _ (List.Mem.tail _ (List.Mem.tail _ (List.Mem.tail _ (List.Mem.head _)))))) (z_const X rfl (z_lO X rfl (z_load X (x := e12) rfl (List.Mem.head _) (z_if_eq X (t := 1520) rfl rfl hrs11 (fun g18 => ?_) (fun g18 => ?_)))))
              ·
                refine w_lconst X.1 (ax_d X (show cdA 350 1520 = some (.lconst 0, 1, 0, 0, 0) from rfl)) (z := (Int32.ofInt 0).toInt64) (by decide) (w_lcmp X.1 (ax_d X (show cdA 350 1521 = some (.lcmp, 1, 0, 0, 0) from rfl)) (z_lc (b := 0) (by decide) (fun c19 hc19 ic19 => ?_)))
                show WS k 1522 [(6, .int (Int32.ofInt e12)), (5, .int (Int32.ofInt e7)), (0, .ref q1), (1, .ref (A 0)), (2, .ref (A 179)), (3, .ref (A 517)), (4, .int (Int32.ofInt i))] [.int (Int32.ofInt c19)] (Wd A dT s11) (ce + 1) (sl + 6)
                refine z_if_eq X (t := 1527) rfl rfl ⟨by first | (clear hps11 hps6; omega) | (clear hps6; omega) | omega, by first | (clear hps11 hps6; omega) | (clear hps6; omega) | omega⟩ (fun g20 => ?_) (fun g20 => ?_)
                ·
                  refine z_goto X (t := 1901) rfl rfl (w_widen (ce' := ce + 29) (sl' := sl + 222) (by first | exact Nat.le_add_right _ _ | exact Nat.add_le_add_left (by decide) _ | omega) (by first | exact Nat.le_add_right _ _ | exact Nat.add_le_add_left (by decide) _ | omega) ?_)
                  exact WS_lv (lv := [(0, .ref q1), (1, .ref (A 0)), (2, .ref (A 179)), (3, .ref (A 517)), (4, .int (Int32.ofInt i))]) (List.forall_mem_cons.mpr ⟨(List.Mem.tail _ (List.Mem.tail _ (List.Mem.head _))), (List.forall_mem_cons.mpr ⟨(List.Mem.tail _ (List.Mem.tail _ (List.Mem.tail _ (List.Mem.head _)))), (List.forall_mem_cons.mpr ⟨(List.Mem.tail _ (List.Mem.tail _ (List.Mem.tail _ (List.Mem.tail _ (List.Mem.head _))))), (List.forall_mem_cons.mpr ⟨(List.Mem.tail _ (List.Mem.tail _ (List.Mem.tail _ (List.Mem.tail _ (List.Mem.tail _ (List.Mem.head _)))))), (List.forall_mem_cons.mpr ⟨(List.Mem.tail _ (List.Mem.tail _ (List.Mem.tail _ (List.Mem.tail _ (List.Mem.tail _ (List.Mem.tail _ (List.Mem.head _))))))), (fun q h => absurd h List.not_mem_nil)⟩)⟩)⟩)⟩)⟩) (hk A _ Is11 JRLx_s11 jq13 (by first | exact oq_f34933ba ws11_89 ws6_89 p1 b2.1 | omega) (by first | exact oq_d7ce4408 ws11_12 ws6_12 p2 | omega))
                ·
                  exfalso
                  omega
              ·
                refine w_lconst X.1 (ax_d X (show cdA 350 1516 = some (.lconst 1, 1, 0, 0, 0) from rfl)) (z := (Int32.ofInt 1).toInt64) (by decide) (z_goto X (t := 1521) rfl rfl (w_lcmp X.1 (ax_d X (show cdA 350 1521 = some (.lcmp, 1, 0, 0, 0) from rfl)) (z_lc (b := 1) (by decide) (fun c21 hc21 ic21 => ?_))))
                show WS k 1522 [(6, .int (Int32.ofInt e12)), (5, .int (Int32.ofInt e7)), (0, .ref q1), (1, .ref (A 0)), (2, .ref (A 179)), (3, .ref (A 517)), (4, .int (Int32.ofInt i))] [.int (Int32.ofInt c21)] (Wd A dT s11) (ce + 1) (sl + 6)
                refine z_if_eq X (t := 1527) rfl rfl ⟨by first | (clear g18 hps11 hps6; omega) | (clear hps11 hps6; omega) | omega, by first | (clear g18 hps11 hps6; omega) | (clear hps11 hps6; omega) | omega⟩ (fun g22 => ?_) (fun g22 => ?_)
                ·
                  refine z_goto X (t := 1901) rfl rfl (w_widen (ce' := ce + 29) (sl' := sl + 222) (by first | exact Nat.le_add_right _ _ | exact Nat.add_le_add_left (by decide) _ | omega) (by first | exact Nat.le_add_right _ _ | exact Nat.add_le_add_left (by decide) _ | omega) ?_)
                  exact WS_lv (lv := [(0, .ref q1), (1, .ref (A 0)), (2, .ref (A 179)), (3, .ref (A 517)), (4, .int (Int32.ofInt i))]) (List.forall_mem_cons.mpr ⟨(List.Mem.tail _ (List.Mem.tail _ (List.Mem.head _))), (List.forall_mem_cons.mpr ⟨(List.Mem.tail _ (List.Mem.tail _ (List.Mem.tail _ (List.Mem.head _)))), (List.forall_mem_cons.mpr ⟨(List.Mem.tail _ (List.Mem.tail _ (List.Mem.tail _ (List.Mem.tail _ (List.Mem.head _))))), (List.forall_mem_cons.mpr ⟨(List.Mem.tail _ (List.Mem.tail _ (List.Mem.tail _ (List.Mem.tail _ (List.Mem.tail _ (List.Mem.head _)))))), (List.forall_mem_cons.mpr ⟨(List.Mem.tail _ (List.Mem.tail _ (List.Mem.tail _ (List.Mem.tail _ (List.Mem.tail _ (List.Mem.tail _ (List.Mem.head _))))))), (fun q h => absurd h List.not_mem_nil)⟩)⟩)⟩)⟩)⟩) (hk A _ Is11 JRLx_s11 jq13 (by first | exact oq_f34933ba ws11_89 ws6_89 p1 b2.1 | omega) (by first | exact oq_d7ce4408 ws11_12 ws6_12 p2 | omega))
                ·
                  exfalso
                  omega
          ·
            exfalso
            omega
        ·
          exfalso
          omega
      ·
        rcases hps11 with mm | mm
        ·
          exfalso
          omega
        ·
          have jq23 : SEQ s11 := seq_upd jSEQ (by first | (clear hps11 hps6; omega) | (clear hps6; omega) | omega) (by first | (clear hps11 hps6; omega) | (clear hps6; omega) | omega) cc.2.2.2.2 (sam_fm Fs6 (by decide)) (by first | (clear hps11 hps6; omega) | (clear hps6; omega) | omega) mm.2.2.2.2 (sbs_fm Fs11 (by decide))
          have rq24 := seq_ans jSEQ I (by first | (clear hps11 hps6; omega) | (clear hps6; omega) | omega) cc.2.2.2.1
          have rq25 : iC s6 399 (sc xs (i + 1)).toNat = iC s 399 (sc xs (i + 1)).toNat := (sam_fm Fs6 (by decide)) _
          refine z_store X (lv' := [(6, .int (Int32.ofInt e12)), (5, .int (Int32.ofInt e7)), (0, .ref q1), (1, .ref (A 0)), (2, .ref (A 179)), (3, .ref (A 517)), (4, .int (Int32.ofInt i))]) rfl (by decide) (fun _ h => h) (z_aload_n X (x := A 179) rfl (List.Mem.tail _ (List.Mem.tail _ (List.Mem.tail _ (List.Mem.tail _ (List.Mem.head _))))) (z_callV X 179 (rm := rmN 186) (As := []) (st := []) rfl rfl (by decide) rfl (by rw [E.1, E.2.1, E.2.2.1]; exact k_thrown2 G Is11 ) ⟨by rw [E.2.2.2]; exact (show 6 + 1 ≤ 2048 from oq_4d34cb53), by rw [E.2.2.2]; exact (show 8 + (1 + 11) + 100 ≤ 84000 from oq_a32dccc4), by rw [E.2.2.2]; exact (show (ce + 1) + 0 ≤ 601024 by first | (clear hps11 hps6; omega) | (clear hps6; omega) | omega), by rw [E.2.2.2]; exact (show (sl + 6) + 0 ≤ 7293034 by first | (clear hps11 hps6; omega) | (clear hps6; omega) | omega)⟩ (Nat.le_of_ble_eq_true rfl) (fun vv s26 hq => ?_) (fun ee s26 hq => ?_)))
          rotate_left
          · obtain ⟨rfl, e27, hv, hrs26, hps26⟩ := hq; cases hv
          obtain ⟨rfl, e27, hv, hrs26, hps26⟩ := hq
          cases hv
          show WS k 1496 [(6, .int (Int32.ofInt e12)), (5, .int (Int32.ofInt e7)), (0, .ref q1), (1, .ref (A 0)), (2, .ref (A 179)), (3, .ref (A 517)), (4, .int (Int32.ofInt i))] [.int (Int32.ofInt e27)] (Wd A dT s11) (ce + 1) (sl + 6)
          refine z_load X (x := e7) rfl (List.Mem.tail _ (List.Mem.head _)) (z_icmp_eq X (t := 1503) rfl rfl hrs26 ⟨by first | (clear hps11 hps6; omega) | (clear hps6; omega) | omega, by first | (clear hps11 hps6; omega) | (clear hps6; omega) | omega⟩ (fun g28 => ?_) (fun g28 => ?_))
          ·
            refine z_load X (x := e7) rfl (List.Mem.tail _ (List.Mem.head _)) (z_if_ne X (t := 1527) rfl rfl ⟨by first | (clear hps11 hps6; omega) | (clear hps6; omega) | omega, by first | (clear hps11 hps6; omega) | (clear hps6; omega) | omega⟩ (fun g29 => ?_) (fun g29 => ?_))
            ·
              refine z_goto X (t := 1901) rfl rfl (w_widen (ce' := ce + 29) (sl' := sl + 222) (by first | exact Nat.le_add_right _ _ | exact Nat.add_le_add_left (by decide) _ | omega) (by first | exact Nat.le_add_right _ _ | exact Nat.add_le_add_left (by decide) _ | omega) ?_)
              exact WS_lv (lv := [(0, .ref q1), (1, .ref (A 0)), (2, .ref (A 179)), (3, .ref (A 517)), (4, .int (Int32.ofInt i))]) (List.forall_mem_cons.mpr ⟨(List.Mem.tail _ (List.Mem.tail _ (List.Mem.head _))), (List.forall_mem_cons.mpr ⟨(List.Mem.tail _ (List.Mem.tail _ (List.Mem.tail _ (List.Mem.head _)))), (List.forall_mem_cons.mpr ⟨(List.Mem.tail _ (List.Mem.tail _ (List.Mem.tail _ (List.Mem.tail _ (List.Mem.head _))))), (List.forall_mem_cons.mpr ⟨(List.Mem.tail _ (List.Mem.tail _ (List.Mem.tail _ (List.Mem.tail _ (List.Mem.tail _ (List.Mem.head _)))))), (List.forall_mem_cons.mpr ⟨(List.Mem.tail _ (List.Mem.tail _ (List.Mem.tail _ (List.Mem.tail _ (List.Mem.tail _ (List.Mem.tail _ (List.Mem.head _))))))), (fun q h => absurd h List.not_mem_nil)⟩)⟩)⟩)⟩)⟩) (hk A _ Is11 JRLx_s11 jq23 (by first | exact oq_f34933ba ws11_89 ws6_89 p1 b2.1 | omega) (by first | exact oq_d7ce4408 ws11_12 ws6_12 p2 | omega))
            ·
              refine z_aload_n X (x := A 517) rfl (List.Mem.tail _ (List.Mem.tail _ (List.Mem.tail _ (List.Mem.tail _ (List.Mem.tail _ (List.Mem.head _)))))) (z_const X rfl (z_lO X rfl (z_load X (x := e12) rfl (List.Mem.head _) (z_if_eq X (t := 1520) rfl rfl hrs11 (fun g30 => ?_) (fun g30 => ?_)))))
              ·
                refine w_lconst X.1 (ax_d X (show cdA 350 1520 = some (.lconst 0, 1, 0, 0, 0) from rfl)) (z := (Int32.ofInt 0).toInt64) (by decide) (w_lcmp X.1 (ax_d X (show cdA 350 1521 = some (.lcmp, 1, 0, 0, 0) from rfl)) (z_lc (b := 0) (by decide) (fun c31 hc31 ic31 => ?_)))
                show WS k 1522 [(6, .int (Int32.ofInt e12)), (5, .int (Int32.ofInt e7)), (0, .ref q1), (1, .ref (A 0)), (2, .ref (A 179)), (3, .ref (A 517)), (4, .int (Int32.ofInt i))] [.int (Int32.ofInt c31)] (Wd A dT s11) (ce + 1) (sl + 6)
                refine z_if_eq X (t := 1527) rfl rfl ⟨by first | (clear hps11 hps6; omega) | (clear hps6; omega) | omega, by first | (clear hps11 hps6; omega) | (clear hps6; omega) | omega⟩ (fun g32 => ?_) (fun g32 => ?_)
                ·
                  refine z_goto X (t := 1901) rfl rfl (w_widen (ce' := ce + 29) (sl' := sl + 222) (by first | exact Nat.le_add_right _ _ | exact Nat.add_le_add_left (by decide) _ | omega) (by first | exact Nat.le_add_right _ _ | exact Nat.add_le_add_left (by decide) _ | omega) ?_)
                  exact WS_lv (lv := [(0, .ref q1), (1, .ref (A 0)), (2, .ref (A 179)), (3, .ref (A 517)), (4, .int (Int32.ofInt i))]) (List.forall_mem_cons.mpr ⟨(List.Mem.tail _ (List.Mem.tail _ (List.Mem.head _))), (List.forall_mem_cons.mpr ⟨(List.Mem.tail _ (List.Mem.tail _ (List.Mem.tail _ (List.Mem.head _)))), (List.forall_mem_cons.mpr ⟨(List.Mem.tail _ (List.Mem.tail _ (List.Mem.tail _ (List.Mem.tail _ (List.Mem.head _))))), (List.forall_mem_cons.mpr ⟨(List.Mem.tail _ (List.Mem.tail _ (List.Mem.tail _ (List.Mem.tail _ (List.Mem.tail _ (List.Mem.head _)))))), (List.forall_mem_cons.mpr ⟨(List.Mem.tail _ (List.Mem.tail _ (List.Mem.tail _ (List.Mem.tail _ (List.Mem.tail _ (List.Mem.tail _ (List.Mem.head _))))))), (fun q h => absurd h List.not_mem_nil)⟩)⟩)⟩)⟩)⟩) (hk A _ Is11 JRLx_s11 jq23 (by first | exact oq_f34933ba ws11_89 ws6_89 p1 b2.1 | omega) (by first | exact oq_d7ce4408 ws11_12 ws6_12 p2 | omega))
                ·
                  exfalso
                  omega
              ·
                refine w_lconst X.1 (ax_d X (show cdA 350 1516 = some (.lconst 1, 1, 0, 0, 0) from rfl)) (z := (Int32.ofInt 1).toInt64) (by decide) (z_goto X (t := 1521) rfl rfl (w_lcmp X.1 (ax_d X (show cdA 350 1521 = some (.lcmp, 1, 0, 0, 0) from rfl)) (z_lc (b := 1) (by decide) (fun c33 hc33 ic33 => ?_))))
                show WS k 1522 [(6, .int (Int32.ofInt e12)), (5, .int (Int32.ofInt e7)), (0, .ref q1), (1, .ref (A 0)), (2, .ref (A 179)), (3, .ref (A 517)), (4, .int (Int32.ofInt i))] [.int (Int32.ofInt c33)] (Wd A dT s11) (ce + 1) (sl + 6)
                refine z_if_eq X (t := 1527) rfl rfl ⟨by first | (clear g30 hps11 hps6; omega) | (clear hps11 hps6; omega) | omega, by first | (clear g30 hps11 hps6; omega) | (clear hps11 hps6; omega) | omega⟩ (fun g34 => ?_) (fun g34 => ?_)
                ·
                  refine z_goto X (t := 1901) rfl rfl (w_widen (ce' := ce + 29) (sl' := sl + 222) (by first | exact Nat.le_add_right _ _ | exact Nat.add_le_add_left (by decide) _ | omega) (by first | exact Nat.le_add_right _ _ | exact Nat.add_le_add_left (by decide) _ | omega) ?_)
                  exact WS_lv (lv := [(0, .ref q1), (1, .ref (A 0)), (2, .ref (A 179)), (3, .ref (A 517)), (4, .int (Int32.ofInt i))]) (List.forall_mem_cons.mpr ⟨(List.Mem.tail _ (List.Mem.tail _ (List.Mem.head _))), (List.forall_mem_cons.mpr ⟨(List.Mem.tail _ (List.Mem.tail _ (List.Mem.tail _ (List.Mem.head _)))), (List.forall_mem_cons.mpr ⟨(List.Mem.tail _ (List.Mem.tail _ (List.Mem.tail _ (List.Mem.tail _ (List.Mem.head _))))), (List.forall_mem_cons.mpr ⟨(List.Mem.tail _ (List.Mem.tail _ (List.Mem.tail _ (List.Mem.tail _ (List.Mem.tail _ (List.Mem.head _)))))), (List.forall_mem_cons.mpr ⟨(List.Mem.tail _ (List.Mem.tail _ (List.Mem.tail _ (List.Mem.tail _ (List.Mem.tail _ (List.Mem.tail _ (List.Mem.head _))))))), (fun q h => absurd h List.not_mem_nil)⟩)⟩)⟩)⟩)⟩) (hk A _ Is11 JRLx_s11 jq23 (by first | exact oq_f34933ba ws11_89 ws6_89 p1 b2.1 | omega) (by first | exact oq_d7ce4408 ws11_12 ws6_12 p2 | omega))
                ·
                  exfalso
                  omega
          ·
            exfalso
            omega
    ·
      refine z_const X rfl (z_goto X (t := 1487) rfl rfl (z_callV X 179 (rm := rmN 279) (As := [.int (Int32.ofInt (sc xs (i + 1))), .int (Int32.ofInt 1)]) (st := []) rfl rfl (by decide) rfl (by rw [E.1, E.2.1, E.2.2.1]; exact k_storm2 G Is6 (by first | exact ⟨sr8.1, sr8.2⟩ | omega) (by first | exact Or.inr (by decide) | omega)) ⟨by rw [E.2.2.2]; exact (show 7 + 1 ≤ 2048 from oq_4e6106eb), by rw [E.2.2.2]; exact (show 8 + (4 + 11) + 122 ≤ 84000 from oq_ebbf79c1), by rw [E.2.2.2]; exact (show (ce + 1) + 0 ≤ 601024 by first | (clear g10 hps6; omega) | (clear hps6; omega) | omega), by rw [E.2.2.2]; exact (show (sl + 6) + 0 ≤ 7293034 by first | (clear g10 hps6; omega) | (clear hps6; omega) | omega)⟩ (Nat.le_of_ble_eq_true rfl) (fun vv s35 hq => ?_) (fun ee s35 hq => ?_)))
      rotate_left
      · obtain ⟨Is35, Fs35, e36, hv, hrs35, hps35⟩ := hq; cases hv
      obtain ⟨Is35, Fs35, e36, hv, hrs35, hps35⟩ := hq
      cases hv
      have Gs35 := fm_tq Gs6 Fs35 rfl rfl
      have JRLx_s35 : RLx s35 := RLx_fm Fs35 (by decide) JRLx_s6
      have ws35_12 : iI s35 12 = iI s6 12 := fm_iq Fs35 rfl
      have ws35_89 : iI s35 89 = iI s6 89 := fm_iq Fs35 rfl
      have wos35 : iO s35 = iO s6 := fm_o Fs35 (by decide)
      show WS k 1490 [(5, .int (Int32.ofInt e7)), (0, .ref q1), (1, .ref (A 0)), (2, .ref (A 179)), (3, .ref (A 517)), (4, .int (Int32.ofInt i))] [.int (Int32.ofInt e36)] (Wd A dT s35) (ce + 1) (sl + 6)
      rcases hps6 with cc | cc
      ·
        rcases hps35 with mm | mm
        ·
          have jq37 : SEQ s35 := seq_same jSEQ (sbs_ts cc.2.2 (sbs_fm Fs35 (by decide))) (sam_ts (sam_fm Fs6 (by decide)) mm.2.2)
          refine z_store X (lv' := [(6, .int (Int32.ofInt e36)), (5, .int (Int32.ofInt e7)), (0, .ref q1), (1, .ref (A 0)), (2, .ref (A 179)), (3, .ref (A 517)), (4, .int (Int32.ofInt i))]) rfl (by decide) (fun _ h => h) (z_aload_n X (x := A 179) rfl (List.Mem.tail _ (List.Mem.tail _ (List.Mem.tail _ (List.Mem.tail _ (List.Mem.head _))))) (z_callV X 179 (rm := rmN 186) (As := []) (st := []) rfl rfl (by decide) rfl (by rw [E.1, E.2.1, E.2.2.1]; exact k_thrown2 G Is35 ) ⟨by rw [E.2.2.2]; exact (show 6 + 1 ≤ 2048 from oq_4d34cb53), by rw [E.2.2.2]; exact (show 8 + (1 + 11) + 100 ≤ 84000 from oq_a32dccc4), by rw [E.2.2.2]; exact (show (ce + 1) + 0 ≤ 601024 by first | (clear hps35 g10 hps6; omega) | (clear g10 hps6; omega) | omega), by rw [E.2.2.2]; exact (show (sl + 6) + 0 ≤ 7293034 by first | (clear hps35 g10 hps6; omega) | (clear g10 hps6; omega) | omega)⟩ (Nat.le_of_ble_eq_true rfl) (fun vv s38 hq => ?_) (fun ee s38 hq => ?_)))
          rotate_left
          · obtain ⟨rfl, e39, hv, hrs38, hps38⟩ := hq; cases hv
          obtain ⟨rfl, e39, hv, hrs38, hps38⟩ := hq
          cases hv
          show WS k 1496 [(6, .int (Int32.ofInt e36)), (5, .int (Int32.ofInt e7)), (0, .ref q1), (1, .ref (A 0)), (2, .ref (A 179)), (3, .ref (A 517)), (4, .int (Int32.ofInt i))] [.int (Int32.ofInt e39)] (Wd A dT s35) (ce + 1) (sl + 6)
          refine z_load X (x := e7) rfl (List.Mem.tail _ (List.Mem.head _)) (z_icmp_eq X (t := 1503) rfl rfl hrs38 ⟨by first | exact oq_18c0abd8 g10 g5 | omega, by first | exact oq_3f990474 g10 g5 | omega⟩ (fun g40 => ?_) (fun g40 => ?_))
          ·
            refine z_load X (x := e7) rfl (List.Mem.tail _ (List.Mem.head _)) (z_if_ne X (t := 1527) rfl rfl ⟨by first | exact oq_18c0abd8 g10 g5 | omega, by first | exact oq_3f990474 g10 g5 | omega⟩ (fun g41 => ?_) (fun g41 => ?_))
            ·
              refine z_goto X (t := 1901) rfl rfl (w_widen (ce' := ce + 29) (sl' := sl + 222) (by first | exact Nat.le_add_right _ _ | exact Nat.add_le_add_left (by decide) _ | omega) (by first | exact Nat.le_add_right _ _ | exact Nat.add_le_add_left (by decide) _ | omega) ?_)
              exact WS_lv (lv := [(0, .ref q1), (1, .ref (A 0)), (2, .ref (A 179)), (3, .ref (A 517)), (4, .int (Int32.ofInt i))]) (List.forall_mem_cons.mpr ⟨(List.Mem.tail _ (List.Mem.tail _ (List.Mem.head _))), (List.forall_mem_cons.mpr ⟨(List.Mem.tail _ (List.Mem.tail _ (List.Mem.tail _ (List.Mem.head _)))), (List.forall_mem_cons.mpr ⟨(List.Mem.tail _ (List.Mem.tail _ (List.Mem.tail _ (List.Mem.tail _ (List.Mem.head _))))), (List.forall_mem_cons.mpr ⟨(List.Mem.tail _ (List.Mem.tail _ (List.Mem.tail _ (List.Mem.tail _ (List.Mem.tail _ (List.Mem.head _)))))), (List.forall_mem_cons.mpr ⟨(List.Mem.tail _ (List.Mem.tail _ (List.Mem.tail _ (List.Mem.tail _ (List.Mem.tail _ (List.Mem.tail _ (List.Mem.head _))))))), (fun q h => absurd h List.not_mem_nil)⟩)⟩)⟩)⟩)⟩) (hk A _ Is35 JRLx_s35 jq37 (by first | exact oq_f34933ba ws35_89 ws6_89 p1 b2.1 | omega) (by first | exact oq_d7ce4408 ws35_12 ws6_12 p2 | omega))
            ·
              refine z_aload_n X (x := A 517) rfl (List.Mem.tail _ (List.Mem.tail _ (List.Mem.tail _ (List.Mem.tail _ (List.Mem.tail _ (List.Mem.head _)))))) (z_const X rfl (z_lO X rfl (z_load X (x := e36) rfl (List.Mem.head _) (z_if_eq X (t := 1520) rfl rfl hrs35 (fun g42 => ?_) (fun g42 => ?_)))))
              ·
                refine w_lconst X.1 (ax_d X (show cdA 350 1520 = some (.lconst 0, 1, 0, 0, 0) from rfl)) (z := (Int32.ofInt 0).toInt64) (by decide) (w_lcmp X.1 (ax_d X (show cdA 350 1521 = some (.lcmp, 1, 0, 0, 0) from rfl)) (z_lc (b := 0) (by decide) (fun c43 hc43 ic43 => ?_)))
                show WS k 1522 [(6, .int (Int32.ofInt e36)), (5, .int (Int32.ofInt e7)), (0, .ref q1), (1, .ref (A 0)), (2, .ref (A 179)), (3, .ref (A 517)), (4, .int (Int32.ofInt i))] [.int (Int32.ofInt c43)] (Wd A dT s35) (ce + 1) (sl + 6)
                refine z_if_eq X (t := 1527) rfl rfl ⟨by first | exact oq_18c0abd8 g10 g5 | omega, by first | exact oq_3f990474 g10 g5 | omega⟩ (fun g44 => ?_) (fun g44 => ?_)
                ·
                  refine z_goto X (t := 1901) rfl rfl (w_widen (ce' := ce + 29) (sl' := sl + 222) (by first | exact Nat.le_add_right _ _ | exact Nat.add_le_add_left (by decide) _ | omega) (by first | exact Nat.le_add_right _ _ | exact Nat.add_le_add_left (by decide) _ | omega) ?_)
                  exact WS_lv (lv := [(0, .ref q1), (1, .ref (A 0)), (2, .ref (A 179)), (3, .ref (A 517)), (4, .int (Int32.ofInt i))]) (List.forall_mem_cons.mpr ⟨(List.Mem.tail _ (List.Mem.tail _ (List.Mem.head _))), (List.forall_mem_cons.mpr ⟨(List.Mem.tail _ (List.Mem.tail _ (List.Mem.tail _ (List.Mem.head _)))), (List.forall_mem_cons.mpr ⟨(List.Mem.tail _ (List.Mem.tail _ (List.Mem.tail _ (List.Mem.tail _ (List.Mem.head _))))), (List.forall_mem_cons.mpr ⟨(List.Mem.tail _ (List.Mem.tail _ (List.Mem.tail _ (List.Mem.tail _ (List.Mem.tail _ (List.Mem.head _)))))), (List.forall_mem_cons.mpr ⟨(List.Mem.tail _ (List.Mem.tail _ (List.Mem.tail _ (List.Mem.tail _ (List.Mem.tail _ (List.Mem.tail _ (List.Mem.head _))))))), (fun q h => absurd h List.not_mem_nil)⟩)⟩)⟩)⟩)⟩) (hk A _ Is35 JRLx_s35 jq37 (by first | exact oq_f34933ba ws35_89 ws6_89 p1 b2.1 | omega) (by first | exact oq_d7ce4408 ws35_12 ws6_12 p2 | omega))
                ·
                  exfalso
                  omega
              ·
                refine w_lconst X.1 (ax_d X (show cdA 350 1516 = some (.lconst 1, 1, 0, 0, 0) from rfl)) (z := (Int32.ofInt 1).toInt64) (by decide) (z_goto X (t := 1521) rfl rfl (w_lcmp X.1 (ax_d X (show cdA 350 1521 = some (.lcmp, 1, 0, 0, 0) from rfl)) (z_lc (b := 1) (by decide) (fun c45 hc45 ic45 => ?_))))
                show WS k 1522 [(6, .int (Int32.ofInt e36)), (5, .int (Int32.ofInt e7)), (0, .ref q1), (1, .ref (A 0)), (2, .ref (A 179)), (3, .ref (A 517)), (4, .int (Int32.ofInt i))] [.int (Int32.ofInt c45)] (Wd A dT s35) (ce + 1) (sl + 6)
                refine z_if_eq X (t := 1527) rfl rfl ⟨by first | exact oq_18c0abd8 g10 g5 | omega, by first | exact oq_3f990474 g10 g5 | omega⟩ (fun g46 => ?_) (fun g46 => ?_)
                ·
                  refine z_goto X (t := 1901) rfl rfl (w_widen (ce' := ce + 29) (sl' := sl + 222) (by first | exact Nat.le_add_right _ _ | exact Nat.add_le_add_left (by decide) _ | omega) (by first | exact Nat.le_add_right _ _ | exact Nat.add_le_add_left (by decide) _ | omega) ?_)
                  exact WS_lv (lv := [(0, .ref q1), (1, .ref (A 0)), (2, .ref (A 179)), (3, .ref (A 517)), (4, .int (Int32.ofInt i))]) (List.forall_mem_cons.mpr ⟨(List.Mem.tail _ (List.Mem.tail _ (List.Mem.head _))), (List.forall_mem_cons.mpr ⟨(List.Mem.tail _ (List.Mem.tail _ (List.Mem.tail _ (List.Mem.head _)))), (List.forall_mem_cons.mpr ⟨(List.Mem.tail _ (List.Mem.tail _ (List.Mem.tail _ (List.Mem.tail _ (List.Mem.head _))))), (List.forall_mem_cons.mpr ⟨(List.Mem.tail _ (List.Mem.tail _ (List.Mem.tail _ (List.Mem.tail _ (List.Mem.tail _ (List.Mem.head _)))))), (List.forall_mem_cons.mpr ⟨(List.Mem.tail _ (List.Mem.tail _ (List.Mem.tail _ (List.Mem.tail _ (List.Mem.tail _ (List.Mem.tail _ (List.Mem.head _))))))), (fun q h => absurd h List.not_mem_nil)⟩)⟩)⟩)⟩)⟩) (hk A _ Is35 JRLx_s35 jq37 (by first | exact oq_f34933ba ws35_89 ws6_89 p1 b2.1 | omega) (by first | exact oq_d7ce4408 ws35_12 ws6_12 p2 | omega))
                ·
                  exfalso
                  omega
          ·
            exfalso
            omega
        ·
          exfalso
          omega
      ·
        rcases hps35 with mm | mm
        ·
          exfalso
          omega
        ·
          have jq47 : SEQ s35 := seq_upd jSEQ (by first | (clear hps35 g10 hps6; omega) | (clear g10 hps6; omega) | omega) (by first | (clear hps35 g10 hps6; omega) | (clear g10 hps6; omega) | omega) cc.2.2.2.2 (sam_fm Fs6 (by decide)) (by first | (clear hps35 g10 hps6; omega) | (clear g10 hps6; omega) | omega) mm.2.2.2.2 (sbs_fm Fs35 (by decide))
          have rq48 := seq_ans jSEQ I (by first | (clear hps35 g10 hps6; omega) | (clear g10 hps6; omega) | omega) cc.2.2.2.1
          have rq49 : iC s6 399 (sc xs (i + 1)).toNat = iC s 399 (sc xs (i + 1)).toNat := (sam_fm Fs6 (by decide)) _
          refine z_store X (lv' := [(6, .int (Int32.ofInt e36)), (5, .int (Int32.ofInt e7)), (0, .ref q1), (1, .ref (A 0)), (2, .ref (A 179)), (3, .ref (A 517)), (4, .int (Int32.ofInt i))]) rfl (by decide) (fun _ h => h) (z_aload_n X (x := A 179) rfl (List.Mem.tail _ (List.Mem.tail _ (List.Mem.tail _ (List.Mem.tail _ (List.Mem.head _))))) (z_callV X 179 (rm := rmN 186) (As := []) (st := []) rfl rfl (by decide) rfl (by rw [E.1, E.2.1, E.2.2.1]; exact k_thrown2 G Is35 ) ⟨by rw [E.2.2.2]; exact (show 6 + 1 ≤ 2048 from oq_4d34cb53), by rw [E.2.2.2]; exact (show 8 + (1 + 11) + 100 ≤ 84000 from oq_a32dccc4), by rw [E.2.2.2]; exact (show (ce + 1) + 0 ≤ 601024 by first | (clear hps35 g10 hps6; omega) | (clear g10 hps6; omega) | omega), by rw [E.2.2.2]; exact (show (sl + 6) + 0 ≤ 7293034 by first | (clear hps35 g10 hps6; omega) | (clear g10 hps6; omega) | omega)⟩ (Nat.le_of_ble_eq_true rfl) (fun vv s50 hq => ?_) (fun ee s50 hq => ?_)))
          rotate_left
          · obtain ⟨rfl, e51, hv, hrs50, hps50⟩ := hq; cases hv
          obtain ⟨rfl, e51, hv, hrs50, hps50⟩ := hq
          cases hv
          show WS k 1496 [(6, .int (Int32.ofInt e36)), (5, .int (Int32.ofInt e7)), (0, .ref q1), (1, .ref (A 0)), (2, .ref (A 179)), (3, .ref (A 517)), (4, .int (Int32.ofInt i))] [.int (Int32.ofInt e51)] (Wd A dT s35) (ce + 1) (sl + 6)
          refine z_load X (x := e7) rfl (List.Mem.tail _ (List.Mem.head _)) (z_icmp_eq X (t := 1503) rfl rfl hrs50 ⟨by first | exact oq_18c0abd8 g10 g5 | omega, by first | exact oq_3f990474 g10 g5 | omega⟩ (fun g52 => ?_) (fun g52 => ?_))
          ·
            refine z_load X (x := e7) rfl (List.Mem.tail _ (List.Mem.head _)) (z_if_ne X (t := 1527) rfl rfl ⟨by first | exact oq_18c0abd8 g10 g5 | omega, by first | exact oq_3f990474 g10 g5 | omega⟩ (fun g53 => ?_) (fun g53 => ?_))
            ·
              refine z_goto X (t := 1901) rfl rfl (w_widen (ce' := ce + 29) (sl' := sl + 222) (by first | exact Nat.le_add_right _ _ | exact Nat.add_le_add_left (by decide) _ | omega) (by first | exact Nat.le_add_right _ _ | exact Nat.add_le_add_left (by decide) _ | omega) ?_)
              exact WS_lv (lv := [(0, .ref q1), (1, .ref (A 0)), (2, .ref (A 179)), (3, .ref (A 517)), (4, .int (Int32.ofInt i))]) (List.forall_mem_cons.mpr ⟨(List.Mem.tail _ (List.Mem.tail _ (List.Mem.head _))), (List.forall_mem_cons.mpr ⟨(List.Mem.tail _ (List.Mem.tail _ (List.Mem.tail _ (List.Mem.head _)))), (List.forall_mem_cons.mpr ⟨(List.Mem.tail _ (List.Mem.tail _ (List.Mem.tail _ (List.Mem.tail _ (List.Mem.head _))))), (List.forall_mem_cons.mpr ⟨(List.Mem.tail _ (List.Mem.tail _ (List.Mem.tail _ (List.Mem.tail _ (List.Mem.tail _ (List.Mem.head _)))))), (List.forall_mem_cons.mpr ⟨(List.Mem.tail _ (List.Mem.tail _ (List.Mem.tail _ (List.Mem.tail _ (List.Mem.tail _ (List.Mem.tail _ (List.Mem.head _))))))), (fun q h => absurd h List.not_mem_nil)⟩)⟩)⟩)⟩)⟩) (hk A _ Is35 JRLx_s35 jq47 (by first | exact oq_f34933ba ws35_89 ws6_89 p1 b2.1 | omega) (by first | exact oq_d7ce4408 ws35_12 ws6_12 p2 | omega))
            ·
              refine z_aload_n X (x := A 517) rfl (List.Mem.tail _ (List.Mem.tail _ (List.Mem.tail _ (List.Mem.tail _ (List.Mem.tail _ (List.Mem.head _)))))) (z_const X rfl (z_lO X rfl (z_load X (x := e36) rfl (List.Mem.head _) (z_if_eq X (t := 1520) rfl rfl hrs35 (fun g54 => ?_) (fun g54 => ?_)))))
              ·
                refine w_lconst X.1 (ax_d X (show cdA 350 1520 = some (.lconst 0, 1, 0, 0, 0) from rfl)) (z := (Int32.ofInt 0).toInt64) (by decide) (w_lcmp X.1 (ax_d X (show cdA 350 1521 = some (.lcmp, 1, 0, 0, 0) from rfl)) (z_lc (b := 0) (by decide) (fun c55 hc55 ic55 => ?_)))
                show WS k 1522 [(6, .int (Int32.ofInt e36)), (5, .int (Int32.ofInt e7)), (0, .ref q1), (1, .ref (A 0)), (2, .ref (A 179)), (3, .ref (A 517)), (4, .int (Int32.ofInt i))] [.int (Int32.ofInt c55)] (Wd A dT s35) (ce + 1) (sl + 6)
                refine z_if_eq X (t := 1527) rfl rfl ⟨by first | exact oq_18c0abd8 g10 g5 | omega, by first | exact oq_3f990474 g10 g5 | omega⟩ (fun g56 => ?_) (fun g56 => ?_)
                ·
                  refine z_goto X (t := 1901) rfl rfl (w_widen (ce' := ce + 29) (sl' := sl + 222) (by first | exact Nat.le_add_right _ _ | exact Nat.add_le_add_left (by decide) _ | omega) (by first | exact Nat.le_add_right _ _ | exact Nat.add_le_add_left (by decide) _ | omega) ?_)
                  exact WS_lv (lv := [(0, .ref q1), (1, .ref (A 0)), (2, .ref (A 179)), (3, .ref (A 517)), (4, .int (Int32.ofInt i))]) (List.forall_mem_cons.mpr ⟨(List.Mem.tail _ (List.Mem.tail _ (List.Mem.head _))), (List.forall_mem_cons.mpr ⟨(List.Mem.tail _ (List.Mem.tail _ (List.Mem.tail _ (List.Mem.head _)))), (List.forall_mem_cons.mpr ⟨(List.Mem.tail _ (List.Mem.tail _ (List.Mem.tail _ (List.Mem.tail _ (List.Mem.head _))))), (List.forall_mem_cons.mpr ⟨(List.Mem.tail _ (List.Mem.tail _ (List.Mem.tail _ (List.Mem.tail _ (List.Mem.tail _ (List.Mem.head _)))))), (List.forall_mem_cons.mpr ⟨(List.Mem.tail _ (List.Mem.tail _ (List.Mem.tail _ (List.Mem.tail _ (List.Mem.tail _ (List.Mem.tail _ (List.Mem.head _))))))), (fun q h => absurd h List.not_mem_nil)⟩)⟩)⟩)⟩)⟩) (hk A _ Is35 JRLx_s35 jq47 (by first | exact oq_f34933ba ws35_89 ws6_89 p1 b2.1 | omega) (by first | exact oq_d7ce4408 ws35_12 ws6_12 p2 | omega))
                ·
                  exfalso
                  omega
              ·
                refine w_lconst X.1 (ax_d X (show cdA 350 1516 = some (.lconst 1, 1, 0, 0, 0) from rfl)) (z := (Int32.ofInt 1).toInt64) (by decide) (z_goto X (t := 1521) rfl rfl (w_lcmp X.1 (ax_d X (show cdA 350 1521 = some (.lcmp, 1, 0, 0, 0) from rfl)) (z_lc (b := 1) (by decide) (fun c57 hc57 ic57 => ?_))))
                show WS k 1522 [(6, .int (Int32.ofInt e36)), (5, .int (Int32.ofInt e7)), (0, .ref q1), (1, .ref (A 0)), (2, .ref (A 179)), (3, .ref (A 517)), (4, .int (Int32.ofInt i))] [.int (Int32.ofInt c57)] (Wd A dT s35) (ce + 1) (sl + 6)
                refine z_if_eq X (t := 1527) rfl rfl ⟨by first | exact oq_18c0abd8 g10 g5 | omega, by first | exact oq_3f990474 g10 g5 | omega⟩ (fun g58 => ?_) (fun g58 => ?_)
                ·
                  refine z_goto X (t := 1901) rfl rfl (w_widen (ce' := ce + 29) (sl' := sl + 222) (by first | exact Nat.le_add_right _ _ | exact Nat.add_le_add_left (by decide) _ | omega) (by first | exact Nat.le_add_right _ _ | exact Nat.add_le_add_left (by decide) _ | omega) ?_)
                  exact WS_lv (lv := [(0, .ref q1), (1, .ref (A 0)), (2, .ref (A 179)), (3, .ref (A 517)), (4, .int (Int32.ofInt i))]) (List.forall_mem_cons.mpr ⟨(List.Mem.tail _ (List.Mem.tail _ (List.Mem.head _))), (List.forall_mem_cons.mpr ⟨(List.Mem.tail _ (List.Mem.tail _ (List.Mem.tail _ (List.Mem.head _)))), (List.forall_mem_cons.mpr ⟨(List.Mem.tail _ (List.Mem.tail _ (List.Mem.tail _ (List.Mem.tail _ (List.Mem.head _))))), (List.forall_mem_cons.mpr ⟨(List.Mem.tail _ (List.Mem.tail _ (List.Mem.tail _ (List.Mem.tail _ (List.Mem.tail _ (List.Mem.head _)))))), (List.forall_mem_cons.mpr ⟨(List.Mem.tail _ (List.Mem.tail _ (List.Mem.tail _ (List.Mem.tail _ (List.Mem.tail _ (List.Mem.tail _ (List.Mem.head _))))))), (fun q h => absurd h List.not_mem_nil)⟩)⟩)⟩)⟩)⟩) (hk A _ Is35 JRLx_s35 jq47 (by first | exact oq_f34933ba ws35_89 ws6_89 p1 b2.1 | omega) (by first | exact oq_d7ce4408 ws35_12 ws6_12 p2 | omega))
                ·
                  exfalso
                  omega
          ·
            exfalso
            omega
  ·
    refine z_const X rfl (z_goto X (t := 1460) rfl rfl (z_aload_n X (x := A 517) rfl (List.Mem.tail _ (List.Mem.tail _ (List.Mem.tail _ (List.Mem.head _)))) (z_callL X (rm := rmN 343) (As := [.ref (A 0), .int (Int32.ofInt (sc xs (i + 1))), .int (Int32.ofInt 1), .ref (A 517)]) (st := []) rfl (by decide) rfl (by rw [E.1, E.2.1, E.2.2.1]; exact lw_storm2 G I (by first | (clear g5; omega) | omega) (by first | (clear g5; omega) | omega)) ⟨by rw [E.2.2.2]; exact (show 9 + 1 ≤ 2048 by decide), by rw [E.2.2.2]; exact (show 8 + (5 + 11) + 168 ≤ 84000 by decide), by rw [E.2.2.2]; exact (show ce + 1 ≤ 601024 by first | exact rmo_1 hce (by decide) | exact rmo_2 hce (by decide) | omega), by rw [E.2.2.2]; exact (show sl + 6 ≤ 7293034 by first | exact rmo_1 hsl (by decide) | exact rmo_2 hsl (by decide) | omega)⟩ (Nat.le_of_ble_eq_true rfl) (fun vv A s59 hA2 hq => ?_) (fun ee A s59 hA2 hq => ?_))))
    rotate_left
    · obtain ⟨Is59, Fs59, e60, hv, hrs59, hps59⟩ := hq; cases hv
    obtain ⟨Is59, Fs59, e60, hv, hrs59, hps59⟩ := hq
    cases hv
    rw [← hA2 0 (by decide)]
    rw [← hA2 179 (by decide)]
    rw [← hA2 517 (by decide)]
    have Gs59 := fm_tq F Fs59 rfl rfl
    have JRLx_s59 : RLx s59 := RLx_fm Fs59 (by decide) jR
    have ws59_12 : iI s59 12 = iI s 12 := fm_iq Fs59 rfl
    have ws59_89 : iI s59 89 = iI s 89 := fm_iq Fs59 rfl
    show WS k 1464 [(0, .ref q1), (1, .ref (A 0)), (2, .ref (A 179)), (3, .ref (A 517)), (4, .int (Int32.ofInt i))] [.int (Int32.ofInt e60)] (Wd A dT s59) (ce + 1) (sl + 6)
    refine z_store X (lv' := [(5, .int (Int32.ofInt e60)), (0, .ref q1), (1, .ref (A 0)), (2, .ref (A 179)), (3, .ref (A 517)), (4, .int (Int32.ofInt i))]) rfl (by decide) (fun _ h => h) (z_aload_n X (x := A 179) rfl (List.Mem.tail _ (List.Mem.tail _ (List.Mem.tail _ (List.Mem.head _)))) (z_aload_n X (x := q1) rfl (List.Mem.tail _ (List.Mem.head _)) (z_load X (x := i) rfl (List.Mem.tail _ (List.Mem.tail _ (List.Mem.tail _ (List.Mem.tail _ (List.Mem.tail _ (List.Mem.head _)))))) (z_const X rfl (z_add X rfl (z_sld X S hL rfl (show 0 ≤ (i + 1) ∧ (i + 1) < (L : Int) by first | exact sx_in hi (by decide) | omega) ?_))))))
    have sr61 : rng (sc xs (i + 1)) := sc_rng
    refine z_aload_n X (x := q1) rfl (List.Mem.tail _ (List.Mem.head _)) (z_load X (x := i) rfl (List.Mem.tail _ (List.Mem.tail _ (List.Mem.tail _ (List.Mem.tail _ (List.Mem.tail _ (List.Mem.head _)))))) (z_const X rfl (z_add X rfl (z_sld X S hL rfl (show 0 ≤ (i + 2) ∧ (i + 2) < (L : Int) by first | exact sx_in hi (by decide) | omega) ?_))))
    have sr62 : rng (sc xs (i + 2)) := sc_rng
    refine z_if_eq X (t := 1486) rfl rfl ⟨by first | exact sr62.1 | omega, by first | exact sr62.2 | omega⟩ (fun g63 => ?_) (fun g63 => ?_)
    ·
      refine z_const X rfl (z_callV X 179 (rm := rmN 279) (As := [.int (Int32.ofInt (sc xs (i + 1))), .int (Int32.ofInt 0)]) (st := []) rfl rfl (by decide) rfl (by rw [E.1, E.2.1, E.2.2.1]; exact k_storm2 G Is59 (by first | exact ⟨sr61.1, sr61.2⟩ | omega) (by first | exact Or.inl (by decide) | omega)) ⟨by rw [E.2.2.2]; exact (show 7 + 1 ≤ 2048 from oq_4e6106eb), by rw [E.2.2.2]; exact (show 8 + (4 + 11) + 122 ≤ 84000 from oq_ebbf79c1), by rw [E.2.2.2]; exact (show (ce + 1) + 0 ≤ 601024 by first | (clear hps59 g5; omega) | (clear g5; omega) | omega), by rw [E.2.2.2]; exact (show (sl + 6) + 0 ≤ 7293034 by first | (clear hps59 g5; omega) | (clear g5; omega) | omega)⟩ (Nat.le_of_ble_eq_true rfl) (fun vv s64 hq => ?_) (fun ee s64 hq => ?_))
      rotate_left
      · obtain ⟨Is64, Fs64, e65, hv, hrs64, hps64⟩ := hq; cases hv
      obtain ⟨Is64, Fs64, e65, hv, hrs64, hps64⟩ := hq
      cases hv
      have Gs64 := fm_tq Gs59 Fs64 rfl rfl
      have JRLx_s64 : RLx s64 := RLx_fm Fs64 (by decide) JRLx_s59
      have ws64_12 : iI s64 12 = iI s59 12 := fm_iq Fs64 rfl
      have ws64_89 : iI s64 89 = iI s59 89 := fm_iq Fs64 rfl
      have wos64 : iO s64 = iO s59 := fm_o Fs64 (by decide)
      show WS k 1490 [(5, .int (Int32.ofInt e60)), (0, .ref q1), (1, .ref (A 0)), (2, .ref (A 179)), (3, .ref (A 517)), (4, .int (Int32.ofInt i))] [.int (Int32.ofInt e65)] (Wd A dT s64) (ce + 1) (sl + 6)
      rcases hps59 with cc | cc
      ·
        rcases hps64 with mm | mm
        ·
          have jq66 : SEQ s64 := seq_same jSEQ (sbs_ts cc.2.2 (sbs_fm Fs64 (by decide))) (sam_ts (sam_fm Fs59 (by decide)) mm.2.2)
          refine z_store X (lv' := [(6, .int (Int32.ofInt e65)), (5, .int (Int32.ofInt e60)), (0, .ref q1), (1, .ref (A 0)), (2, .ref (A 179)), (3, .ref (A 517)), (4, .int (Int32.ofInt i))]) rfl (by decide) (fun _ h => h) (z_aload_n X (x := A 179) rfl (List.Mem.tail _ (List.Mem.tail _ (List.Mem.tail _ (List.Mem.tail _ (List.Mem.head _))))) (z_callV X 179 (rm := rmN 186) (As := []) (st := []) rfl rfl (by decide) rfl (by rw [E.1, E.2.1, E.2.2.1]; exact k_thrown2 G Is64 ) ⟨by rw [E.2.2.2]; exact (show 6 + 1 ≤ 2048 from oq_4d34cb53), by rw [E.2.2.2]; exact (show 8 + (1 + 11) + 100 ≤ 84000 from oq_a32dccc4), by rw [E.2.2.2]; exact (show (ce + 1) + 0 ≤ 601024 by first | (clear hps64 hps59 g5; omega) | (clear hps59 g5; omega) | omega), by rw [E.2.2.2]; exact (show (sl + 6) + 0 ≤ 7293034 by first | (clear hps64 hps59 g5; omega) | (clear hps59 g5; omega) | omega)⟩ (Nat.le_of_ble_eq_true rfl) (fun vv s67 hq => ?_) (fun ee s67 hq => ?_)))
          rotate_left
          · obtain ⟨rfl, e68, hv, hrs67, hps67⟩ := hq; cases hv
          obtain ⟨rfl, e68, hv, hrs67, hps67⟩ := hq
          cases hv
          show WS k 1496 [(6, .int (Int32.ofInt e65)), (5, .int (Int32.ofInt e60)), (0, .ref q1), (1, .ref (A 0)), (2, .ref (A 179)), (3, .ref (A 517)), (4, .int (Int32.ofInt i))] [.int (Int32.ofInt e68)] (Wd A dT s64) (ce + 1) (sl + 6)
          refine z_load X (x := e60) rfl (List.Mem.tail _ (List.Mem.head _)) (z_icmp_eq X (t := 1503) rfl rfl hrs67 ⟨by first | exact oq_69bdeeac g63 g5 | omega, by first | exact oq_4dd3cfdf g63 g5 | omega⟩ (fun g69 => ?_) (fun g69 => ?_))
          ·
            refine z_load X (x := e60) rfl (List.Mem.tail _ (List.Mem.head _)) (z_if_ne X (t := 1527) rfl rfl ⟨by first | exact oq_69bdeeac g63 g5 | omega, by first | exact oq_4dd3cfdf g63 g5 | omega⟩ (fun g70 => ?_) (fun g70 => ?_))
            ·
              refine z_goto X (t := 1901) rfl rfl (w_widen (ce' := ce + 29) (sl' := sl + 222) (by first | exact Nat.le_add_right _ _ | exact Nat.add_le_add_left (by decide) _ | omega) (by first | exact Nat.le_add_right _ _ | exact Nat.add_le_add_left (by decide) _ | omega) ?_)
              exact WS_lv (lv := [(0, .ref q1), (1, .ref (A 0)), (2, .ref (A 179)), (3, .ref (A 517)), (4, .int (Int32.ofInt i))]) (List.forall_mem_cons.mpr ⟨(List.Mem.tail _ (List.Mem.tail _ (List.Mem.head _))), (List.forall_mem_cons.mpr ⟨(List.Mem.tail _ (List.Mem.tail _ (List.Mem.tail _ (List.Mem.head _)))), (List.forall_mem_cons.mpr ⟨(List.Mem.tail _ (List.Mem.tail _ (List.Mem.tail _ (List.Mem.tail _ (List.Mem.head _))))), (List.forall_mem_cons.mpr ⟨(List.Mem.tail _ (List.Mem.tail _ (List.Mem.tail _ (List.Mem.tail _ (List.Mem.tail _ (List.Mem.head _)))))), (List.forall_mem_cons.mpr ⟨(List.Mem.tail _ (List.Mem.tail _ (List.Mem.tail _ (List.Mem.tail _ (List.Mem.tail _ (List.Mem.tail _ (List.Mem.head _))))))), (fun q h => absurd h List.not_mem_nil)⟩)⟩)⟩)⟩)⟩) (hk A _ Is64 JRLx_s64 jq66 (by first | exact oq_f34933ba ws64_89 ws59_89 p1 b2.1 | omega) (by first | exact oq_d7ce4408 ws64_12 ws59_12 p2 | omega))
            ·
              refine z_aload_n X (x := A 517) rfl (List.Mem.tail _ (List.Mem.tail _ (List.Mem.tail _ (List.Mem.tail _ (List.Mem.tail _ (List.Mem.head _)))))) (z_const X rfl (z_lO X rfl (z_load X (x := e65) rfl (List.Mem.head _) (z_if_eq X (t := 1520) rfl rfl hrs64 (fun g71 => ?_) (fun g71 => ?_)))))
              ·
                refine w_lconst X.1 (ax_d X (show cdA 350 1520 = some (.lconst 0, 1, 0, 0, 0) from rfl)) (z := (Int32.ofInt 0).toInt64) (by decide) (w_lcmp X.1 (ax_d X (show cdA 350 1521 = some (.lcmp, 1, 0, 0, 0) from rfl)) (z_lc (b := 0) (by decide) (fun c72 hc72 ic72 => ?_)))
                show WS k 1522 [(6, .int (Int32.ofInt e65)), (5, .int (Int32.ofInt e60)), (0, .ref q1), (1, .ref (A 0)), (2, .ref (A 179)), (3, .ref (A 517)), (4, .int (Int32.ofInt i))] [.int (Int32.ofInt c72)] (Wd A dT s64) (ce + 1) (sl + 6)
                refine z_if_eq X (t := 1527) rfl rfl ⟨by first | exact oq_69bdeeac g63 g5 | omega, by first | exact oq_4dd3cfdf g63 g5 | omega⟩ (fun g73 => ?_) (fun g73 => ?_)
                ·
                  refine z_goto X (t := 1901) rfl rfl (w_widen (ce' := ce + 29) (sl' := sl + 222) (by first | exact Nat.le_add_right _ _ | exact Nat.add_le_add_left (by decide) _ | omega) (by first | exact Nat.le_add_right _ _ | exact Nat.add_le_add_left (by decide) _ | omega) ?_)
                  exact WS_lv (lv := [(0, .ref q1), (1, .ref (A 0)), (2, .ref (A 179)), (3, .ref (A 517)), (4, .int (Int32.ofInt i))]) (List.forall_mem_cons.mpr ⟨(List.Mem.tail _ (List.Mem.tail _ (List.Mem.head _))), (List.forall_mem_cons.mpr ⟨(List.Mem.tail _ (List.Mem.tail _ (List.Mem.tail _ (List.Mem.head _)))), (List.forall_mem_cons.mpr ⟨(List.Mem.tail _ (List.Mem.tail _ (List.Mem.tail _ (List.Mem.tail _ (List.Mem.head _))))), (List.forall_mem_cons.mpr ⟨(List.Mem.tail _ (List.Mem.tail _ (List.Mem.tail _ (List.Mem.tail _ (List.Mem.tail _ (List.Mem.head _)))))), (List.forall_mem_cons.mpr ⟨(List.Mem.tail _ (List.Mem.tail _ (List.Mem.tail _ (List.Mem.tail _ (List.Mem.tail _ (List.Mem.tail _ (List.Mem.head _))))))), (fun q h => absurd h List.not_mem_nil)⟩)⟩)⟩)⟩)⟩) (hk A _ Is64 JRLx_s64 jq66 (by first | exact oq_f34933ba ws64_89 ws59_89 p1 b2.1 | omega) (by first | exact oq_d7ce4408 ws64_12 ws59_12 p2 | omega))
                ·
                  exfalso
                  omega
              ·
                refine w_lconst X.1 (ax_d X (show cdA 350 1516 = some (.lconst 1, 1, 0, 0, 0) from rfl)) (z := (Int32.ofInt 1).toInt64) (by decide) (z_goto X (t := 1521) rfl rfl (w_lcmp X.1 (ax_d X (show cdA 350 1521 = some (.lcmp, 1, 0, 0, 0) from rfl)) (z_lc (b := 1) (by decide) (fun c74 hc74 ic74 => ?_))))
                show WS k 1522 [(6, .int (Int32.ofInt e65)), (5, .int (Int32.ofInt e60)), (0, .ref q1), (1, .ref (A 0)), (2, .ref (A 179)), (3, .ref (A 517)), (4, .int (Int32.ofInt i))] [.int (Int32.ofInt c74)] (Wd A dT s64) (ce + 1) (sl + 6)
                refine z_if_eq X (t := 1527) rfl rfl ⟨by first | exact oq_69bdeeac g63 g5 | omega, by first | exact oq_4dd3cfdf g63 g5 | omega⟩ (fun g75 => ?_) (fun g75 => ?_)
                ·
                  refine z_goto X (t := 1901) rfl rfl (w_widen (ce' := ce + 29) (sl' := sl + 222) (by first | exact Nat.le_add_right _ _ | exact Nat.add_le_add_left (by decide) _ | omega) (by first | exact Nat.le_add_right _ _ | exact Nat.add_le_add_left (by decide) _ | omega) ?_)
                  exact WS_lv (lv := [(0, .ref q1), (1, .ref (A 0)), (2, .ref (A 179)), (3, .ref (A 517)), (4, .int (Int32.ofInt i))]) (List.forall_mem_cons.mpr ⟨(List.Mem.tail _ (List.Mem.tail _ (List.Mem.head _))), (List.forall_mem_cons.mpr ⟨(List.Mem.tail _ (List.Mem.tail _ (List.Mem.tail _ (List.Mem.head _)))), (List.forall_mem_cons.mpr ⟨(List.Mem.tail _ (List.Mem.tail _ (List.Mem.tail _ (List.Mem.tail _ (List.Mem.head _))))), (List.forall_mem_cons.mpr ⟨(List.Mem.tail _ (List.Mem.tail _ (List.Mem.tail _ (List.Mem.tail _ (List.Mem.tail _ (List.Mem.head _)))))), (List.forall_mem_cons.mpr ⟨(List.Mem.tail _ (List.Mem.tail _ (List.Mem.tail _ (List.Mem.tail _ (List.Mem.tail _ (List.Mem.tail _ (List.Mem.head _))))))), (fun q h => absurd h List.not_mem_nil)⟩)⟩)⟩)⟩)⟩) (hk A _ Is64 JRLx_s64 jq66 (by first | exact oq_f34933ba ws64_89 ws59_89 p1 b2.1 | omega) (by first | exact oq_d7ce4408 ws64_12 ws59_12 p2 | omega))
                ·
                  exfalso
                  omega
          ·
            exfalso
            omega
        ·
          exfalso
          omega
      ·
        rcases hps64 with mm | mm
        ·
          exfalso
          omega
        ·
          have jq76 : SEQ s64 := seq_upd jSEQ (by first | (clear hps64 hps59 g5; omega) | (clear hps59 g5; omega) | omega) (by first | (clear hps64 hps59 g5; omega) | (clear hps59 g5; omega) | omega) cc.2.2.2.2 (sam_fm Fs59 (by decide)) (by first | (clear hps64 hps59 g5; omega) | (clear hps59 g5; omega) | omega) mm.2.2.2.2 (sbs_fm Fs64 (by decide))
          have rq77 := seq_ans jSEQ I (by first | (clear hps64 hps59 g5; omega) | (clear hps59 g5; omega) | omega) cc.2.2.2.1
          have rq78 : iC s59 399 (sc xs (i + 1)).toNat = iC s 399 (sc xs (i + 1)).toNat := (sam_fm Fs59 (by decide)) _
          refine z_store X (lv' := [(6, .int (Int32.ofInt e65)), (5, .int (Int32.ofInt e60)), (0, .ref q1), (1, .ref (A 0)), (2, .ref (A 179)), (3, .ref (A 517)), (4, .int (Int32.ofInt i))]) rfl (by decide) (fun _ h => h) (z_aload_n X (x := A 179) rfl (List.Mem.tail _ (List.Mem.tail _ (List.Mem.tail _ (List.Mem.tail _ (List.Mem.head _))))) (z_callV X 179 (rm := rmN 186) (As := []) (st := []) rfl rfl (by decide) rfl (by rw [E.1, E.2.1, E.2.2.1]; exact k_thrown2 G Is64 ) ⟨by rw [E.2.2.2]; exact (show 6 + 1 ≤ 2048 from oq_4d34cb53), by rw [E.2.2.2]; exact (show 8 + (1 + 11) + 100 ≤ 84000 from oq_a32dccc4), by rw [E.2.2.2]; exact (show (ce + 1) + 0 ≤ 601024 by first | (clear hps64 hps59 g5; omega) | (clear hps59 g5; omega) | omega), by rw [E.2.2.2]; exact (show (sl + 6) + 0 ≤ 7293034 by first | (clear hps64 hps59 g5; omega) | (clear hps59 g5; omega) | omega)⟩ (Nat.le_of_ble_eq_true rfl) (fun vv s79 hq => ?_) (fun ee s79 hq => ?_)))
          rotate_left
          · obtain ⟨rfl, e80, hv, hrs79, hps79⟩ := hq; cases hv
          obtain ⟨rfl, e80, hv, hrs79, hps79⟩ := hq
          cases hv
          show WS k 1496 [(6, .int (Int32.ofInt e65)), (5, .int (Int32.ofInt e60)), (0, .ref q1), (1, .ref (A 0)), (2, .ref (A 179)), (3, .ref (A 517)), (4, .int (Int32.ofInt i))] [.int (Int32.ofInt e80)] (Wd A dT s64) (ce + 1) (sl + 6)
          refine z_load X (x := e60) rfl (List.Mem.tail _ (List.Mem.head _)) (z_icmp_eq X (t := 1503) rfl rfl hrs79 ⟨by first | exact oq_69bdeeac g63 g5 | omega, by first | exact oq_4dd3cfdf g63 g5 | omega⟩ (fun g81 => ?_) (fun g81 => ?_))
          ·
            refine z_load X (x := e60) rfl (List.Mem.tail _ (List.Mem.head _)) (z_if_ne X (t := 1527) rfl rfl ⟨by first | exact oq_69bdeeac g63 g5 | omega, by first | exact oq_4dd3cfdf g63 g5 | omega⟩ (fun g82 => ?_) (fun g82 => ?_))
            ·
              refine z_goto X (t := 1901) rfl rfl (w_widen (ce' := ce + 29) (sl' := sl + 222) (by first | exact Nat.le_add_right _ _ | exact Nat.add_le_add_left (by decide) _ | omega) (by first | exact Nat.le_add_right _ _ | exact Nat.add_le_add_left (by decide) _ | omega) ?_)
              exact WS_lv (lv := [(0, .ref q1), (1, .ref (A 0)), (2, .ref (A 179)), (3, .ref (A 517)), (4, .int (Int32.ofInt i))]) (List.forall_mem_cons.mpr ⟨(List.Mem.tail _ (List.Mem.tail _ (List.Mem.head _))), (List.forall_mem_cons.mpr ⟨(List.Mem.tail _ (List.Mem.tail _ (List.Mem.tail _ (List.Mem.head _)))), (List.forall_mem_cons.mpr ⟨(List.Mem.tail _ (List.Mem.tail _ (List.Mem.tail _ (List.Mem.tail _ (List.Mem.head _))))), (List.forall_mem_cons.mpr ⟨(List.Mem.tail _ (List.Mem.tail _ (List.Mem.tail _ (List.Mem.tail _ (List.Mem.tail _ (List.Mem.head _)))))), (List.forall_mem_cons.mpr ⟨(List.Mem.tail _ (List.Mem.tail _ (List.Mem.tail _ (List.Mem.tail _ (List.Mem.tail _ (List.Mem.tail _ (List.Mem.head _))))))), (fun q h => absurd h List.not_mem_nil)⟩)⟩)⟩)⟩)⟩) (hk A _ Is64 JRLx_s64 jq76 (by first | exact oq_f34933ba ws64_89 ws59_89 p1 b2.1 | omega) (by first | exact oq_d7ce4408 ws64_12 ws59_12 p2 | omega))
            ·
              refine z_aload_n X (x := A 517) rfl (List.Mem.tail _ (List.Mem.tail _ (List.Mem.tail _ (List.Mem.tail _ (List.Mem.tail _ (List.Mem.head _)))))) (z_const X rfl (z_lO X rfl (z_load X (x := e65) rfl (List.Mem.head _) (z_if_eq X (t := 1520) rfl rfl hrs64 (fun g83 => ?_) (fun g83 => ?_)))))
              ·
                refine w_lconst X.1 (ax_d X (show cdA 350 1520 = some (.lconst 0, 1, 0, 0, 0) from rfl)) (z := (Int32.ofInt 0).toInt64) (by decide) (w_lcmp X.1 (ax_d X (show cdA 350 1521 = some (.lcmp, 1, 0, 0, 0) from rfl)) (z_lc (b := 0) (by decide) (fun c84 hc84 ic84 => ?_)))
                show WS k 1522 [(6, .int (Int32.ofInt e65)), (5, .int (Int32.ofInt e60)), (0, .ref q1), (1, .ref (A 0)), (2, .ref (A 179)), (3, .ref (A 517)), (4, .int (Int32.ofInt i))] [.int (Int32.ofInt c84)] (Wd A dT s64) (ce + 1) (sl + 6)
                refine z_if_eq X (t := 1527) rfl rfl ⟨by first | exact oq_69bdeeac g63 g5 | omega, by first | exact oq_4dd3cfdf g63 g5 | omega⟩ (fun g85 => ?_) (fun g85 => ?_)
                ·
                  refine z_goto X (t := 1901) rfl rfl (w_widen (ce' := ce + 29) (sl' := sl + 222) (by first | exact Nat.le_add_right _ _ | exact Nat.add_le_add_left (by decide) _ | omega) (by first | exact Nat.le_add_right _ _ | exact Nat.add_le_add_left (by decide) _ | omega) ?_)
                  exact WS_lv (lv := [(0, .ref q1), (1, .ref (A 0)), (2, .ref (A 179)), (3, .ref (A 517)), (4, .int (Int32.ofInt i))]) (List.forall_mem_cons.mpr ⟨(List.Mem.tail _ (List.Mem.tail _ (List.Mem.head _))), (List.forall_mem_cons.mpr ⟨(List.Mem.tail _ (List.Mem.tail _ (List.Mem.tail _ (List.Mem.head _)))), (List.forall_mem_cons.mpr ⟨(List.Mem.tail _ (List.Mem.tail _ (List.Mem.tail _ (List.Mem.tail _ (List.Mem.head _))))), (List.forall_mem_cons.mpr ⟨(List.Mem.tail _ (List.Mem.tail _ (List.Mem.tail _ (List.Mem.tail _ (List.Mem.tail _ (List.Mem.head _)))))), (List.forall_mem_cons.mpr ⟨(List.Mem.tail _ (List.Mem.tail _ (List.Mem.tail _ (List.Mem.tail _ (List.Mem.tail _ (List.Mem.tail _ (List.Mem.head _))))))), (fun q h => absurd h List.not_mem_nil)⟩)⟩)⟩)⟩)⟩) (hk A _ Is64 JRLx_s64 jq76 (by first | exact oq_f34933ba ws64_89 ws59_89 p1 b2.1 | omega) (by first | exact oq_d7ce4408 ws64_12 ws59_12 p2 | omega))
                ·
                  exfalso
                  omega
              ·
                refine w_lconst X.1 (ax_d X (show cdA 350 1516 = some (.lconst 1, 1, 0, 0, 0) from rfl)) (z := (Int32.ofInt 1).toInt64) (by decide) (z_goto X (t := 1521) rfl rfl (w_lcmp X.1 (ax_d X (show cdA 350 1521 = some (.lcmp, 1, 0, 0, 0) from rfl)) (z_lc (b := 1) (by decide) (fun c86 hc86 ic86 => ?_))))
                show WS k 1522 [(6, .int (Int32.ofInt e65)), (5, .int (Int32.ofInt e60)), (0, .ref q1), (1, .ref (A 0)), (2, .ref (A 179)), (3, .ref (A 517)), (4, .int (Int32.ofInt i))] [.int (Int32.ofInt c86)] (Wd A dT s64) (ce + 1) (sl + 6)
                refine z_if_eq X (t := 1527) rfl rfl ⟨by first | exact oq_69bdeeac g63 g5 | omega, by first | exact oq_4dd3cfdf g63 g5 | omega⟩ (fun g87 => ?_) (fun g87 => ?_)
                ·
                  refine z_goto X (t := 1901) rfl rfl (w_widen (ce' := ce + 29) (sl' := sl + 222) (by first | exact Nat.le_add_right _ _ | exact Nat.add_le_add_left (by decide) _ | omega) (by first | exact Nat.le_add_right _ _ | exact Nat.add_le_add_left (by decide) _ | omega) ?_)
                  exact WS_lv (lv := [(0, .ref q1), (1, .ref (A 0)), (2, .ref (A 179)), (3, .ref (A 517)), (4, .int (Int32.ofInt i))]) (List.forall_mem_cons.mpr ⟨(List.Mem.tail _ (List.Mem.tail _ (List.Mem.head _))), (List.forall_mem_cons.mpr ⟨(List.Mem.tail _ (List.Mem.tail _ (List.Mem.tail _ (List.Mem.head _)))), (List.forall_mem_cons.mpr ⟨(List.Mem.tail _ (List.Mem.tail _ (List.Mem.tail _ (List.Mem.tail _ (List.Mem.head _))))), (List.forall_mem_cons.mpr ⟨(List.Mem.tail _ (List.Mem.tail _ (List.Mem.tail _ (List.Mem.tail _ (List.Mem.tail _ (List.Mem.head _)))))), (List.forall_mem_cons.mpr ⟨(List.Mem.tail _ (List.Mem.tail _ (List.Mem.tail _ (List.Mem.tail _ (List.Mem.tail _ (List.Mem.tail _ (List.Mem.head _))))))), (fun q h => absurd h List.not_mem_nil)⟩)⟩)⟩)⟩)⟩) (hk A _ Is64 JRLx_s64 jq76 (by first | exact oq_f34933ba ws64_89 ws59_89 p1 b2.1 | omega) (by first | exact oq_d7ce4408 ws64_12 ws59_12 p2 | omega))
                ·
                  exfalso
                  omega
          ·
            exfalso
            omega
    ·
      refine z_const X rfl (z_goto X (t := 1487) rfl rfl (z_callV X 179 (rm := rmN 279) (As := [.int (Int32.ofInt (sc xs (i + 1))), .int (Int32.ofInt 1)]) (st := []) rfl rfl (by decide) rfl (by rw [E.1, E.2.1, E.2.2.1]; exact k_storm2 G Is59 (by first | exact ⟨sr61.1, sr61.2⟩ | omega) (by first | exact Or.inr (by decide) | omega)) ⟨by rw [E.2.2.2]; exact (show 7 + 1 ≤ 2048 from oq_4e6106eb), by rw [E.2.2.2]; exact (show 8 + (4 + 11) + 122 ≤ 84000 from oq_ebbf79c1), by rw [E.2.2.2]; exact (show (ce + 1) + 0 ≤ 601024 by first | (clear g63 hps59 g5; omega) | (clear hps59 g5; omega) | omega), by rw [E.2.2.2]; exact (show (sl + 6) + 0 ≤ 7293034 by first | (clear g63 hps59 g5; omega) | (clear hps59 g5; omega) | omega)⟩ (Nat.le_of_ble_eq_true rfl) (fun vv s88 hq => ?_) (fun ee s88 hq => ?_)))
      rotate_left
      · obtain ⟨Is88, Fs88, e89, hv, hrs88, hps88⟩ := hq; cases hv
      obtain ⟨Is88, Fs88, e89, hv, hrs88, hps88⟩ := hq
      cases hv
      have Gs88 := fm_tq Gs59 Fs88 rfl rfl
      have JRLx_s88 : RLx s88 := RLx_fm Fs88 (by decide) JRLx_s59
      have ws88_12 : iI s88 12 = iI s59 12 := fm_iq Fs88 rfl
      have ws88_89 : iI s88 89 = iI s59 89 := fm_iq Fs88 rfl
      have wos88 : iO s88 = iO s59 := fm_o Fs88 (by decide)
      show WS k 1490 [(5, .int (Int32.ofInt e60)), (0, .ref q1), (1, .ref (A 0)), (2, .ref (A 179)), (3, .ref (A 517)), (4, .int (Int32.ofInt i))] [.int (Int32.ofInt e89)] (Wd A dT s88) (ce + 1) (sl + 6)
      rcases hps59 with cc | cc
      ·
        rcases hps88 with mm | mm
        ·
          have jq90 : SEQ s88 := seq_same jSEQ (sbs_ts cc.2.2 (sbs_fm Fs88 (by decide))) (sam_ts (sam_fm Fs59 (by decide)) mm.2.2)
          refine z_store X (lv' := [(6, .int (Int32.ofInt e89)), (5, .int (Int32.ofInt e60)), (0, .ref q1), (1, .ref (A 0)), (2, .ref (A 179)), (3, .ref (A 517)), (4, .int (Int32.ofInt i))]) rfl (by decide) (fun _ h => h) (z_aload_n X (x := A 179) rfl (List.Mem.tail _ (List.Mem.tail _ (List.Mem.tail _ (List.Mem.tail _ (List.Mem.head _))))) (z_callV X 179 (rm := rmN 186) (As := []) (st := []) rfl rfl (by decide) rfl (by rw [E.1, E.2.1, E.2.2.1]; exact k_thrown2 G Is88 ) ⟨by rw [E.2.2.2]; exact (show 6 + 1 ≤ 2048 from oq_4d34cb53), by rw [E.2.2.2]; exact (show 8 + (1 + 11) + 100 ≤ 84000 from oq_a32dccc4), by rw [E.2.2.2]; exact (show (ce + 1) + 0 ≤ 601024 by first | (clear hps88 g63 hps59 g5; omega) | (clear g63 hps59 g5; omega) | omega), by rw [E.2.2.2]; exact (show (sl + 6) + 0 ≤ 7293034 by first | (clear hps88 g63 hps59 g5; omega) | (clear g63 hps59 g5; omega) | omega)⟩ (Nat.le_of_ble_eq_true rfl) (fun vv s91 hq => ?_) (fun ee s91 hq => ?_)))
          rotate_left
          · obtain ⟨rfl, e92, hv, hrs91, hps91⟩ := hq; cases hv
          obtain ⟨rfl, e92, hv, hrs91, hps91⟩ := hq
          cases hv
          show WS k 1496 [(6, .int (Int32.ofInt e89)), (5, .int (Int32.ofInt e60)), (0, .ref q1), (1, .ref (A 0)), (2, .ref (A 179)), (3, .ref (A 517)), (4, .int (Int32.ofInt i))] [.int (Int32.ofInt e92)] (Wd A dT s88) (ce + 1) (sl + 6)
          refine z_load X (x := e60) rfl (List.Mem.tail _ (List.Mem.head _)) (z_icmp_eq X (t := 1503) rfl rfl hrs91 ⟨by first | (clear hps88 g63 hps59 g5; omega) | (clear g63 hps59 g5; omega) | omega, by first | (clear hps88 g63 hps59 g5; omega) | (clear g63 hps59 g5; omega) | omega⟩ (fun g93 => ?_) (fun g93 => ?_))
          ·
            refine z_load X (x := e60) rfl (List.Mem.tail _ (List.Mem.head _)) (z_if_ne X (t := 1527) rfl rfl ⟨by first | (clear hps88 g63 hps59 g5; omega) | (clear g63 hps59 g5; omega) | omega, by first | (clear hps88 g63 hps59 g5; omega) | (clear g63 hps59 g5; omega) | omega⟩ (fun g94 => ?_) (fun g94 => ?_))
            ·
              refine z_goto X (t := 1901) rfl rfl (w_widen (ce' := ce + 29) (sl' := sl + 222) (by first | exact Nat.le_add_right _ _ | exact Nat.add_le_add_left (by decide) _ | omega) (by first | exact Nat.le_add_right _ _ | exact Nat.add_le_add_left (by decide) _ | omega) ?_)
              exact WS_lv (lv := [(0, .ref q1), (1, .ref (A 0)), (2, .ref (A 179)), (3, .ref (A 517)), (4, .int (Int32.ofInt i))]) (List.forall_mem_cons.mpr ⟨(List.Mem.tail _ (List.Mem.tail _ (List.Mem.head _))), (List.forall_mem_cons.mpr ⟨(List.Mem.tail _ (List.Mem.tail _ (List.Mem.tail _ (List.Mem.head _)))), (List.forall_mem_cons.mpr ⟨(List.Mem.tail _ (List.Mem.tail _ (List.Mem.tail _ (List.Mem.tail _ (List.Mem.head _))))), (List.forall_mem_cons.mpr ⟨(List.Mem.tail _ (List.Mem.tail _ (List.Mem.tail _ (List.Mem.tail _ (List.Mem.tail _ (List.Mem.head _)))))), (List.forall_mem_cons.mpr ⟨(List.Mem.tail _ (List.Mem.tail _ (List.Mem.tail _ (List.Mem.tail _ (List.Mem.tail _ (List.Mem.tail _ (List.Mem.head _))))))), (fun q h => absurd h List.not_mem_nil)⟩)⟩)⟩)⟩)⟩) (hk A _ Is88 JRLx_s88 jq90 (by first | exact oq_f34933ba ws88_89 ws59_89 p1 b2.1 | omega) (by first | exact oq_d7ce4408 ws88_12 ws59_12 p2 | omega))
            ·
              refine z_aload_n X (x := A 517) rfl (List.Mem.tail _ (List.Mem.tail _ (List.Mem.tail _ (List.Mem.tail _ (List.Mem.tail _ (List.Mem.head _)))))) (z_const X rfl (z_lO X rfl (z_load X (x := e89) rfl (List.Mem.head _) (z_if_eq X (t := 1520) rfl rfl hrs88 (fun g95 => ?_) (fun g95 => ?_)))))
              ·
                refine w_lconst X.1 (ax_d X (show cdA 350 1520 = some (.lconst 0, 1, 0, 0, 0) from rfl)) (z := (Int32.ofInt 0).toInt64) (by decide) (w_lcmp X.1 (ax_d X (show cdA 350 1521 = some (.lcmp, 1, 0, 0, 0) from rfl)) (z_lc (b := 0) (by decide) (fun c96 hc96 ic96 => ?_)))
                show WS k 1522 [(6, .int (Int32.ofInt e89)), (5, .int (Int32.ofInt e60)), (0, .ref q1), (1, .ref (A 0)), (2, .ref (A 179)), (3, .ref (A 517)), (4, .int (Int32.ofInt i))] [.int (Int32.ofInt c96)] (Wd A dT s88) (ce + 1) (sl + 6)
                refine z_if_eq X (t := 1527) rfl rfl ⟨by first | (clear hps88 g63 hps59 g5; omega) | (clear g63 hps59 g5; omega) | omega, by first | (clear hps88 g63 hps59 g5; omega) | (clear g63 hps59 g5; omega) | omega⟩ (fun g97 => ?_) (fun g97 => ?_)
                ·
                  refine z_goto X (t := 1901) rfl rfl (w_widen (ce' := ce + 29) (sl' := sl + 222) (by first | exact Nat.le_add_right _ _ | exact Nat.add_le_add_left (by decide) _ | omega) (by first | exact Nat.le_add_right _ _ | exact Nat.add_le_add_left (by decide) _ | omega) ?_)
                  exact WS_lv (lv := [(0, .ref q1), (1, .ref (A 0)), (2, .ref (A 179)), (3, .ref (A 517)), (4, .int (Int32.ofInt i))]) (List.forall_mem_cons.mpr ⟨(List.Mem.tail _ (List.Mem.tail _ (List.Mem.head _))), (List.forall_mem_cons.mpr ⟨(List.Mem.tail _ (List.Mem.tail _ (List.Mem.tail _ (List.Mem.head _)))), (List.forall_mem_cons.mpr ⟨(List.Mem.tail _ (List.Mem.tail _ (List.Mem.tail _ (List.Mem.tail _ (List.Mem.head _))))), (List.forall_mem_cons.mpr ⟨(List.Mem.tail _ (List.Mem.tail _ (List.Mem.tail _ (List.Mem.tail _ (List.Mem.tail _ (List.Mem.head _)))))), (List.forall_mem_cons.mpr ⟨(List.Mem.tail _ (List.Mem.tail _ (List.Mem.tail _ (List.Mem.tail _ (List.Mem.tail _ (List.Mem.tail _ (List.Mem.head _))))))), (fun q h => absurd h List.not_mem_nil)⟩)⟩)⟩)⟩)⟩) (hk A _ Is88 JRLx_s88 jq90 (by first | exact oq_f34933ba ws88_89 ws59_89 p1 b2.1 | omega) (by first | exact oq_d7ce4408 ws88_12 ws59_12 p2 | omega))
                ·
                  exfalso
                  omega
              ·
                refine w_lconst X.1 (ax_d X (show cdA 350 1516 = some (.lconst 1, 1, 0, 0, 0) from rfl)) (z := (Int32.ofInt 1).toInt64) (by decide) (z_goto X (t := 1521) rfl rfl (w_lcmp X.1 (ax_d X (show cdA 350 1521 = some (.lcmp, 1, 0, 0, 0) from rfl)) (z_lc (b := 1) (by decide) (fun c98 hc98 ic98 => ?_))))
                show WS k 1522 [(6, .int (Int32.ofInt e89)), (5, .int (Int32.ofInt e60)), (0, .ref q1), (1, .ref (A 0)), (2, .ref (A 179)), (3, .ref (A 517)), (4, .int (Int32.ofInt i))] [.int (Int32.ofInt c98)] (Wd A dT s88) (ce + 1) (sl + 6)
                refine z_if_eq X (t := 1527) rfl rfl ⟨by first | (clear g95 hps88 g63 hps59 g5; omega) | (clear hps88 g63 hps59 g5; omega) | omega, by first | (clear g95 hps88 g63 hps59 g5; omega) | (clear hps88 g63 hps59 g5; omega) | omega⟩ (fun g99 => ?_) (fun g99 => ?_)
                ·
                  refine z_goto X (t := 1901) rfl rfl (w_widen (ce' := ce + 29) (sl' := sl + 222) (by first | exact Nat.le_add_right _ _ | exact Nat.add_le_add_left (by decide) _ | omega) (by first | exact Nat.le_add_right _ _ | exact Nat.add_le_add_left (by decide) _ | omega) ?_)
                  exact WS_lv (lv := [(0, .ref q1), (1, .ref (A 0)), (2, .ref (A 179)), (3, .ref (A 517)), (4, .int (Int32.ofInt i))]) (List.forall_mem_cons.mpr ⟨(List.Mem.tail _ (List.Mem.tail _ (List.Mem.head _))), (List.forall_mem_cons.mpr ⟨(List.Mem.tail _ (List.Mem.tail _ (List.Mem.tail _ (List.Mem.head _)))), (List.forall_mem_cons.mpr ⟨(List.Mem.tail _ (List.Mem.tail _ (List.Mem.tail _ (List.Mem.tail _ (List.Mem.head _))))), (List.forall_mem_cons.mpr ⟨(List.Mem.tail _ (List.Mem.tail _ (List.Mem.tail _ (List.Mem.tail _ (List.Mem.tail _ (List.Mem.head _)))))), (List.forall_mem_cons.mpr ⟨(List.Mem.tail _ (List.Mem.tail _ (List.Mem.tail _ (List.Mem.tail _ (List.Mem.tail _ (List.Mem.tail _ (List.Mem.head _))))))), (fun q h => absurd h List.not_mem_nil)⟩)⟩)⟩)⟩)⟩) (hk A _ Is88 JRLx_s88 jq90 (by first | exact oq_f34933ba ws88_89 ws59_89 p1 b2.1 | omega) (by first | exact oq_d7ce4408 ws88_12 ws59_12 p2 | omega))
                ·
                  exfalso
                  omega
          ·
            exfalso
            omega
        ·
          exfalso
          omega
      ·
        rcases hps88 with mm | mm
        ·
          exfalso
          omega
        ·
          have jq100 : SEQ s88 := seq_upd jSEQ (by first | (clear hps88 g63 hps59 g5; omega) | (clear g63 hps59 g5; omega) | omega) (by first | (clear hps88 g63 hps59 g5; omega) | (clear g63 hps59 g5; omega) | omega) cc.2.2.2.2 (sam_fm Fs59 (by decide)) (by first | (clear hps88 g63 hps59 g5; omega) | (clear g63 hps59 g5; omega) | omega) mm.2.2.2.2 (sbs_fm Fs88 (by decide))
          have rq101 := seq_ans jSEQ I (by first | (clear hps88 g63 hps59 g5; omega) | (clear g63 hps59 g5; omega) | omega) cc.2.2.2.1
          have rq102 : iC s59 399 (sc xs (i + 1)).toNat = iC s 399 (sc xs (i + 1)).toNat := (sam_fm Fs59 (by decide)) _
          refine z_store X (lv' := [(6, .int (Int32.ofInt e89)), (5, .int (Int32.ofInt e60)), (0, .ref q1), (1, .ref (A 0)), (2, .ref (A 179)), (3, .ref (A 517)), (4, .int (Int32.ofInt i))]) rfl (by decide) (fun _ h => h) (z_aload_n X (x := A 179) rfl (List.Mem.tail _ (List.Mem.tail _ (List.Mem.tail _ (List.Mem.tail _ (List.Mem.head _))))) (z_callV X 179 (rm := rmN 186) (As := []) (st := []) rfl rfl (by decide) rfl (by rw [E.1, E.2.1, E.2.2.1]; exact k_thrown2 G Is88 ) ⟨by rw [E.2.2.2]; exact (show 6 + 1 ≤ 2048 from oq_4d34cb53), by rw [E.2.2.2]; exact (show 8 + (1 + 11) + 100 ≤ 84000 from oq_a32dccc4), by rw [E.2.2.2]; exact (show (ce + 1) + 0 ≤ 601024 by first | (clear hps88 g63 hps59 g5; omega) | (clear g63 hps59 g5; omega) | omega), by rw [E.2.2.2]; exact (show (sl + 6) + 0 ≤ 7293034 by first | (clear hps88 g63 hps59 g5; omega) | (clear g63 hps59 g5; omega) | omega)⟩ (Nat.le_of_ble_eq_true rfl) (fun vv s103 hq => ?_) (fun ee s103 hq => ?_)))
          rotate_left
          · obtain ⟨rfl, e104, hv, hrs103, hps103⟩ := hq; cases hv
          obtain ⟨rfl, e104, hv, hrs103, hps103⟩ := hq
          cases hv
          show WS k 1496 [(6, .int (Int32.ofInt e89)), (5, .int (Int32.ofInt e60)), (0, .ref q1), (1, .ref (A 0)), (2, .ref (A 179)), (3, .ref (A 517)), (4, .int (Int32.ofInt i))] [.int (Int32.ofInt e104)] (Wd A dT s88) (ce + 1) (sl + 6)
          refine z_load X (x := e60) rfl (List.Mem.tail _ (List.Mem.head _)) (z_icmp_eq X (t := 1503) rfl rfl hrs103 ⟨by first | (clear hps88 g63 hps59 g5; omega) | (clear g63 hps59 g5; omega) | omega, by first | (clear hps88 g63 hps59 g5; omega) | (clear g63 hps59 g5; omega) | omega⟩ (fun g105 => ?_) (fun g105 => ?_))
          ·
            refine z_load X (x := e60) rfl (List.Mem.tail _ (List.Mem.head _)) (z_if_ne X (t := 1527) rfl rfl ⟨by first | (clear hps88 g63 hps59 g5; omega) | (clear g63 hps59 g5; omega) | omega, by first | (clear hps88 g63 hps59 g5; omega) | (clear g63 hps59 g5; omega) | omega⟩ (fun g106 => ?_) (fun g106 => ?_))
            ·
              refine z_goto X (t := 1901) rfl rfl (w_widen (ce' := ce + 29) (sl' := sl + 222) (by first | exact Nat.le_add_right _ _ | exact Nat.add_le_add_left (by decide) _ | omega) (by first | exact Nat.le_add_right _ _ | exact Nat.add_le_add_left (by decide) _ | omega) ?_)
              exact WS_lv (lv := [(0, .ref q1), (1, .ref (A 0)), (2, .ref (A 179)), (3, .ref (A 517)), (4, .int (Int32.ofInt i))]) (List.forall_mem_cons.mpr ⟨(List.Mem.tail _ (List.Mem.tail _ (List.Mem.head _))), (List.forall_mem_cons.mpr ⟨(List.Mem.tail _ (List.Mem.tail _ (List.Mem.tail _ (List.Mem.head _)))), (List.forall_mem_cons.mpr ⟨(List.Mem.tail _ (List.Mem.tail _ (List.Mem.tail _ (List.Mem.tail _ (List.Mem.head _))))), (List.forall_mem_cons.mpr ⟨(List.Mem.tail _ (List.Mem.tail _ (List.Mem.tail _ (List.Mem.tail _ (List.Mem.tail _ (List.Mem.head _)))))), (List.forall_mem_cons.mpr ⟨(List.Mem.tail _ (List.Mem.tail _ (List.Mem.tail _ (List.Mem.tail _ (List.Mem.tail _ (List.Mem.tail _ (List.Mem.head _))))))), (fun q h => absurd h List.not_mem_nil)⟩)⟩)⟩)⟩)⟩) (hk A _ Is88 JRLx_s88 jq100 (by first | exact oq_f34933ba ws88_89 ws59_89 p1 b2.1 | omega) (by first | exact oq_d7ce4408 ws88_12 ws59_12 p2 | omega))
            ·
              refine z_aload_n X (x := A 517) rfl (List.Mem.tail _ (List.Mem.tail _ (List.Mem.tail _ (List.Mem.tail _ (List.Mem.tail _ (List.Mem.head _)))))) (z_const X rfl (z_lO X rfl (z_load X (x := e89) rfl (List.Mem.head _) (z_if_eq X (t := 1520) rfl rfl hrs88 (fun g107 => ?_) (fun g107 => ?_)))))
              ·
                refine w_lconst X.1 (ax_d X (show cdA 350 1520 = some (.lconst 0, 1, 0, 0, 0) from rfl)) (z := (Int32.ofInt 0).toInt64) (by decide) (w_lcmp X.1 (ax_d X (show cdA 350 1521 = some (.lcmp, 1, 0, 0, 0) from rfl)) (z_lc (b := 0) (by decide) (fun c108 hc108 ic108 => ?_)))
                show WS k 1522 [(6, .int (Int32.ofInt e89)), (5, .int (Int32.ofInt e60)), (0, .ref q1), (1, .ref (A 0)), (2, .ref (A 179)), (3, .ref (A 517)), (4, .int (Int32.ofInt i))] [.int (Int32.ofInt c108)] (Wd A dT s88) (ce + 1) (sl + 6)
                refine z_if_eq X (t := 1527) rfl rfl ⟨by first | (clear hps88 g63 hps59 g5; omega) | (clear g63 hps59 g5; omega) | omega, by first | (clear hps88 g63 hps59 g5; omega) | (clear g63 hps59 g5; omega) | omega⟩ (fun g109 => ?_) (fun g109 => ?_)
                ·
                  refine z_goto X (t := 1901) rfl rfl (w_widen (ce' := ce + 29) (sl' := sl + 222) (by first | exact Nat.le_add_right _ _ | exact Nat.add_le_add_left (by decide) _ | omega) (by first | exact Nat.le_add_right _ _ | exact Nat.add_le_add_left (by decide) _ | omega) ?_)
                  exact WS_lv (lv := [(0, .ref q1), (1, .ref (A 0)), (2, .ref (A 179)), (3, .ref (A 517)), (4, .int (Int32.ofInt i))]) (List.forall_mem_cons.mpr ⟨(List.Mem.tail _ (List.Mem.tail _ (List.Mem.head _))), (List.forall_mem_cons.mpr ⟨(List.Mem.tail _ (List.Mem.tail _ (List.Mem.tail _ (List.Mem.head _)))), (List.forall_mem_cons.mpr ⟨(List.Mem.tail _ (List.Mem.tail _ (List.Mem.tail _ (List.Mem.tail _ (List.Mem.head _))))), (List.forall_mem_cons.mpr ⟨(List.Mem.tail _ (List.Mem.tail _ (List.Mem.tail _ (List.Mem.tail _ (List.Mem.tail _ (List.Mem.head _)))))), (List.forall_mem_cons.mpr ⟨(List.Mem.tail _ (List.Mem.tail _ (List.Mem.tail _ (List.Mem.tail _ (List.Mem.tail _ (List.Mem.tail _ (List.Mem.head _))))))), (fun q h => absurd h List.not_mem_nil)⟩)⟩)⟩)⟩)⟩) (hk A _ Is88 JRLx_s88 jq100 (by first | exact oq_f34933ba ws88_89 ws59_89 p1 b2.1 | omega) (by first | exact oq_d7ce4408 ws88_12 ws59_12 p2 | omega))
                ·
                  exfalso
                  omega
              ·
                refine w_lconst X.1 (ax_d X (show cdA 350 1516 = some (.lconst 1, 1, 0, 0, 0) from rfl)) (z := (Int32.ofInt 1).toInt64) (by decide) (z_goto X (t := 1521) rfl rfl (w_lcmp X.1 (ax_d X (show cdA 350 1521 = some (.lcmp, 1, 0, 0, 0) from rfl)) (z_lc (b := 1) (by decide) (fun c110 hc110 ic110 => ?_))))
                show WS k 1522 [(6, .int (Int32.ofInt e89)), (5, .int (Int32.ofInt e60)), (0, .ref q1), (1, .ref (A 0)), (2, .ref (A 179)), (3, .ref (A 517)), (4, .int (Int32.ofInt i))] [.int (Int32.ofInt c110)] (Wd A dT s88) (ce + 1) (sl + 6)
                refine z_if_eq X (t := 1527) rfl rfl ⟨by first | (clear g107 hps88 g63 hps59 g5; omega) | (clear hps88 g63 hps59 g5; omega) | omega, by first | (clear g107 hps88 g63 hps59 g5; omega) | (clear hps88 g63 hps59 g5; omega) | omega⟩ (fun g111 => ?_) (fun g111 => ?_)
                ·
                  refine z_goto X (t := 1901) rfl rfl (w_widen (ce' := ce + 29) (sl' := sl + 222) (by first | exact Nat.le_add_right _ _ | exact Nat.add_le_add_left (by decide) _ | omega) (by first | exact Nat.le_add_right _ _ | exact Nat.add_le_add_left (by decide) _ | omega) ?_)
                  exact WS_lv (lv := [(0, .ref q1), (1, .ref (A 0)), (2, .ref (A 179)), (3, .ref (A 517)), (4, .int (Int32.ofInt i))]) (List.forall_mem_cons.mpr ⟨(List.Mem.tail _ (List.Mem.tail _ (List.Mem.head _))), (List.forall_mem_cons.mpr ⟨(List.Mem.tail _ (List.Mem.tail _ (List.Mem.tail _ (List.Mem.head _)))), (List.forall_mem_cons.mpr ⟨(List.Mem.tail _ (List.Mem.tail _ (List.Mem.tail _ (List.Mem.tail _ (List.Mem.head _))))), (List.forall_mem_cons.mpr ⟨(List.Mem.tail _ (List.Mem.tail _ (List.Mem.tail _ (List.Mem.tail _ (List.Mem.tail _ (List.Mem.head _)))))), (List.forall_mem_cons.mpr ⟨(List.Mem.tail _ (List.Mem.tail _ (List.Mem.tail _ (List.Mem.tail _ (List.Mem.tail _ (List.Mem.tail _ (List.Mem.head _))))))), (fun q h => absurd h List.not_mem_nil)⟩)⟩)⟩)⟩)⟩) (hk A _ Is88 JRLx_s88 jq100 (by first | exact oq_f34933ba ws88_89 ws59_89 p1 b2.1 | omega) (by first | exact oq_d7ce4408 ws88_12 ws59_12 p2 | omega))
                ·
                  exfalso
                  omega
          ·
            exfalso
            omega
theorem lc_35 (G : GX l s0 D tys a0 dT) (GR : RS0 s0) (SF : SF0 s0) (GT : TXs0 s0) {k : kx_T} (X : AX k 350 dT) (E : kL k = l ∧ kS0 k = s0 ∧ kD k = D ∧ kR k = room_1) {q1 L : Nat} {xs : Nat → Int32} (S : SX k q1 L xs) (hL : L ≤ 3072) (I : Bd s) (jR : RLx s) (jSEQ : SEQ s) (p1 : iI s 89 = 1) (p2 : iI s 12 ≤ 8) {i : Int} (hi : 0 ≤ i ∧ i + 6 ≤ (L : Int)) {ce sl : Nat} (hce : ce + 29 ≤ 601024) (hsl : sl + 222 ≤ 7293034) (hk : ∀ (A : Nat → Nat) (t : PS), Bd t → RLx t → SEQ t → iI t 89 = 1 → iI t 12 ≤ 8 → WS k 1901 [(0, .ref q1), (1, .ref (A 0)), (2, .ref (A 179)), (3, .ref (A 517)), (4, .int (Int32.ofInt i))] [] (Wd A dT t) (ce + 29) (sl + 222)) : WS k 1530 [(0, .ref q1), (1, .ref (A 0)), (2, .ref (A 179)), (3, .ref (A 517)), (4, .int (Int32.ofInt i))] [] (Wd A dT s) ce sl := by
  have F : Fm [43, 44, 46, 47, 49, 50, 52, 53, 55, 56, 58, 59, 61, 62, 64, 65, 67, 68, 42, 39, 40, 41, 73, 105, 106, 77, 75, 78, 79, 80, 81] [57, 58, 67, 62, 77, 78, 79, 73, 87, 80, 81, 82, 83, 84, 85, 86, 96, 89, 90, 91, 92, 93, 94, 95, 105, 98, 99, 100, 101, 102, 103, 104, 114, 107, 108, 109, 110, 111, 112, 113, 123, 116, 117, 118, 119, 120, 121, 122, 132, 125, 126, 127, 128, 129, 130, 131, 141, 134, 135, 136, 137, 138, 139, 140, 150, 143, 144, 145, 146, 147, 148, 149, 20, 76, 74, 75, 72, 1059, 1060, 1061, 1063, 1460, 401, 400, 403, 404, 232, 402, 405, 406, 407, 408, 409, 410, 411, 412, 413, 414, 415, 416, 202, 204, 205, 206, 207, 208, 209, 210, 211, 212, 213, 214, 215, 216, 217, 218, 219, 220, 221, 222, 223, 224, 225, 226, 227, 203, 161, 230] s s := fm_rf _ _ s
  have b1 := bi_12 I
  have b2 := bi_89 I
  refine z_aload_n X (x := A 0) rfl (List.Mem.tail _ (List.Mem.head _)) (z_aload_n X (x := q1) rfl (List.Mem.head _) (z_load X (x := i) rfl (List.Mem.tail _ (List.Mem.tail _ (List.Mem.tail _ (List.Mem.tail _ (List.Mem.head _))))) (z_const X rfl (z_add X rfl (z_sld X S hL rfl (show 0 ≤ (i + 1) ∧ (i + 1) < (L : Int) by first | exact sx_in hi (by decide) | omega) ?_)))))
  have sr3 : rng (sc xs (i + 1)) := sc_rng
  refine z_aload_n X (x := q1) rfl (List.Mem.head _) (z_load X (x := i) rfl (List.Mem.tail _ (List.Mem.tail _ (List.Mem.tail _ (List.Mem.tail _ (List.Mem.head _))))) (z_const X rfl (z_add X rfl (z_sld X S hL rfl (show 0 ≤ (i + 2) ∧ (i + 2) < (L : Int) by first | exact sx_in hi (by decide) | omega) ?_))))
  have sr4 : rng (sc xs (i + 2)) := sc_rng
  refine z_aload_n X (x := q1) rfl (List.Mem.head _) (z_load X (x := i) rfl (List.Mem.tail _ (List.Mem.tail _ (List.Mem.tail _ (List.Mem.tail _ (List.Mem.head _))))) (z_const X rfl (z_add X rfl (z_sld X S hL rfl (show 0 ≤ (i + 3) ∧ (i + 3) < (L : Int) by first | exact sx_in hi (by decide) | omega) ?_))))
  have sr5 : rng (sc xs (i + 3)) := sc_rng
  refine z_aload_n X (x := q1) rfl (List.Mem.head _) (z_load X (x := i) rfl (List.Mem.tail _ (List.Mem.tail _ (List.Mem.tail _ (List.Mem.tail _ (List.Mem.head _))))) (z_const X rfl (z_add X rfl (z_sld X S hL rfl (show 0 ≤ (i + 4) ∧ (i + 4) < (L : Int) by first | exact sx_in hi (by decide) | omega) ?_))))
  have sr6 : rng (sc xs (i + 4)) := sc_rng
  refine z_aload_n X (x := A 517) rfl (List.Mem.tail _ (List.Mem.tail _ (List.Mem.tail _ (List.Mem.head _)))) (z_callL X (rm := rmN 344) (As := [.ref (A 0), .int (Int32.ofInt (sc xs (i + 1))), .int (Int32.ofInt (sc xs (i + 2))), .int (Int32.ofInt (sc xs (i + 3))), .int (Int32.ofInt (sc xs (i + 4))), .ref (A 517)]) (st := []) rfl (by decide) rfl (by rw [E.1, E.2.1, E.2.2.1]; exact lw_mends G GR I (by omega) (by omega) (by omega) (by omega)) ⟨by rw [E.2.2.2]; exact (show 55 + 1 ≤ 2048 by decide), by rw [E.2.2.2]; exact (show 8 + (7 + 11) + 2372 ≤ 84000 by decide), by rw [E.2.2.2]; exact (show ce + 4 ≤ 601024 by first | exact rmo_1 hce (by decide) | exact rmo_2 hce (by decide) | omega), by rw [E.2.2.2]; exact (show sl + 24 ≤ 7293034 by first | exact rmo_1 hsl (by decide) | exact rmo_2 hsl (by decide) | omega)⟩ (Nat.le_of_ble_eq_true rfl) (fun vv A s7 hA2 hq => ?_) (fun ee A s7 hA2 hq => ?_))
  rotate_left
  · obtain ⟨Is7, Fs7, e8, hv, hrs7, hps7⟩ := hq; cases hv
  obtain ⟨Is7, Fs7, e8, hv, hrs7, hps7⟩ := hq
  cases hv
  rw [← hA2 0 (by decide)]
  rw [← hA2 179 (by decide)]
  rw [← hA2 517 (by decide)]
  have Gs7 := fm_ts F Fs7 (by decide) (by decide +kernel)
  have JRLx_s7 : RLx s7 := RLx_fm Fs7 (by decide) jR
  have JSEQ_s7 : SEQ s7 := SEQ_fm Fs7 (by decide) jSEQ
  have ws7_12 : iI s7 12 = iI s 12 := fm_iq Fs7 rfl
  have ws7_89 : iI s7 89 = iI s 89 := fm_iq Fs7 rfl
  show WS k 1559 [(0, .ref q1), (1, .ref (A 0)), (2, .ref (A 179)), (3, .ref (A 517)), (4, .int (Int32.ofInt i))] [.int (Int32.ofInt e8)] (Wd A dT s7) (ce + 4) (sl + 24)
  refine z_store X (lv' := [(5, .int (Int32.ofInt e8)), (0, .ref q1), (1, .ref (A 0)), (2, .ref (A 179)), (3, .ref (A 517)), (4, .int (Int32.ofInt i))]) rfl (by decide) (fun _ h => h) (z_aload_n X (x := A 179) rfl (List.Mem.tail _ (List.Mem.tail _ (List.Mem.tail _ (List.Mem.head _)))) (z_aload_n X (x := q1) rfl (List.Mem.tail _ (List.Mem.head _)) (z_load X (x := i) rfl (List.Mem.tail _ (List.Mem.tail _ (List.Mem.tail _ (List.Mem.tail _ (List.Mem.tail _ (List.Mem.head _)))))) (z_const X rfl (z_add X rfl (z_sld X S hL rfl (show 0 ≤ (i + 1) ∧ (i + 1) < (L : Int) by first | exact sx_in hi (by decide) | omega) ?_))))))
  have sr9 : rng (sc xs (i + 1)) := sc_rng
  refine z_aload_n X (x := q1) rfl (List.Mem.tail _ (List.Mem.head _)) (z_load X (x := i) rfl (List.Mem.tail _ (List.Mem.tail _ (List.Mem.tail _ (List.Mem.tail _ (List.Mem.tail _ (List.Mem.head _)))))) (z_const X rfl (z_add X rfl (z_sld X S hL rfl (show 0 ≤ (i + 2) ∧ (i + 2) < (L : Int) by first | exact sx_in hi (by decide) | omega) ?_))))
  have sr10 : rng (sc xs (i + 2)) := sc_rng
  refine z_aload_n X (x := q1) rfl (List.Mem.tail _ (List.Mem.head _)) (z_load X (x := i) rfl (List.Mem.tail _ (List.Mem.tail _ (List.Mem.tail _ (List.Mem.tail _ (List.Mem.tail _ (List.Mem.head _)))))) (z_const X rfl (z_add X rfl (z_sld X S hL rfl (show 0 ≤ (i + 3) ∧ (i + 3) < (L : Int) by first | exact sx_in hi (by decide) | omega) ?_))))
  have sr11 : rng (sc xs (i + 3)) := sc_rng
  refine z_aload_n X (x := q1) rfl (List.Mem.tail _ (List.Mem.head _)) (z_load X (x := i) rfl (List.Mem.tail _ (List.Mem.tail _ (List.Mem.tail _ (List.Mem.tail _ (List.Mem.tail _ (List.Mem.head _)))))) (z_const X rfl (z_add X rfl (z_sld X S hL rfl (show 0 ≤ (i + 4) ∧ (i + 4) < (L : Int) by first | exact sx_in hi (by decide) | omega) ?_))))
  have sr12 : rng (sc xs (i + 4)) := sc_rng
  refine z_callV X 179 (rm := rmN 286) (As := [.int (Int32.ofInt (sc xs (i + 1))), .int (Int32.ofInt (sc xs (i + 2))), .int (Int32.ofInt (sc xs (i + 3))), .int (Int32.ofInt (sc xs (i + 4)))]) (st := []) rfl rfl (by decide) rfl (by rw [E.1, E.2.1, E.2.2.1]; exact k_mends G Is7 JRLx_s7 (by first | exact ⟨sr9.1, sr9.2⟩ | omega) (by first | exact ⟨sr10.1, sr10.2⟩ | omega) (by first | exact ⟨sr11.1, sr11.2⟩ | omega) (by first | exact ⟨sr12.1, sr12.2⟩ | omega)) ⟨by rw [E.2.2.2]; exact (show 73 + 1 ≤ 2048 from oq_c67cc45d), by rw [E.2.2.2]; exact (show 8 + (7 + 11) + 3227 ≤ 84000 from oq_f40e0be7), by rw [E.2.2.2]; exact (show (ce + 4) + 0 ≤ 601024 by omega), by rw [E.2.2.2]; exact (show (sl + 24) + 0 ≤ 7293034 by omega)⟩ (Nat.le_of_ble_eq_true rfl) (fun vv s13 hq => ?_) (fun ee s13 hq => ?_)
  rotate_left
  · obtain ⟨Is13, Fs13, JRLx_s13, e14, hv, hrs13, hps13⟩ := hq; cases hv
  obtain ⟨Is13, Fs13, JRLx_s13, e14, hv, hrs13, hps13⟩ := hq
  cases hv
  have Gs13 := fm_tq Gs7 Fs13 rfl rfl
  have JRLx_s13 : RLx s13 := RLx_fm Fs13 (by decide) JRLx_s7
  have JSEQ_s13 : SEQ s13 := SEQ_fm Fs13 (by decide) JSEQ_s7
  have ws13_12 : iI s13 12 = iI s7 12 := fm_iq Fs13 rfl
  have ws13_89 : iI s13 89 = iI s7 89 := fm_iq Fs13 rfl
  have wos13 : iO s13 = iO s7 := fm_o Fs13 (by decide)
  show WS k 1589 [(5, .int (Int32.ofInt e8)), (0, .ref q1), (1, .ref (A 0)), (2, .ref (A 179)), (3, .ref (A 517)), (4, .int (Int32.ofInt i))] [.int (Int32.ofInt e14)] (Wd A dT s13) (ce + 4) (sl + 24)
  refine z_store X (lv' := [(6, .int (Int32.ofInt e14)), (5, .int (Int32.ofInt e8)), (0, .ref q1), (1, .ref (A 0)), (2, .ref (A 179)), (3, .ref (A 517)), (4, .int (Int32.ofInt i))]) rfl (by decide) (fun _ h => h) (z_goto X (t := 1901) rfl rfl (w_widen (ce' := ce + 29) (sl' := sl + 222) (by first | exact Nat.le_add_right _ _ | exact Nat.add_le_add_left (by decide) _ | omega) (by first | exact Nat.le_add_right _ _ | exact Nat.add_le_add_left (by decide) _ | omega) ?_))
  exact WS_lv (lv := [(0, .ref q1), (1, .ref (A 0)), (2, .ref (A 179)), (3, .ref (A 517)), (4, .int (Int32.ofInt i))]) (List.forall_mem_cons.mpr ⟨(List.Mem.tail _ (List.Mem.tail _ (List.Mem.head _))), (List.forall_mem_cons.mpr ⟨(List.Mem.tail _ (List.Mem.tail _ (List.Mem.tail _ (List.Mem.head _)))), (List.forall_mem_cons.mpr ⟨(List.Mem.tail _ (List.Mem.tail _ (List.Mem.tail _ (List.Mem.tail _ (List.Mem.head _))))), (List.forall_mem_cons.mpr ⟨(List.Mem.tail _ (List.Mem.tail _ (List.Mem.tail _ (List.Mem.tail _ (List.Mem.tail _ (List.Mem.head _)))))), (List.forall_mem_cons.mpr ⟨(List.Mem.tail _ (List.Mem.tail _ (List.Mem.tail _ (List.Mem.tail _ (List.Mem.tail _ (List.Mem.tail _ (List.Mem.head _))))))), (fun q h => absurd h List.not_mem_nil)⟩)⟩)⟩)⟩)⟩) (hk A _ Is13 JRLx_s13 JSEQ_s13 (by first | exact oq_f34933ba ws13_89 ws7_89 p1 b2.1 | omega) (by first | exact oq_d7ce4408 ws13_12 ws7_12 p2 | omega))
theorem lc_36 (G : GX l s0 D tys a0 dT) (GR : RS0 s0) (SF : SF0 s0) (GT : TXs0 s0) {k : kx_T} (X : AX k 350 dT) (E : kL k = l ∧ kS0 k = s0 ∧ kD k = D ∧ kR k = room_1) {q1 L : Nat} {xs : Nat → Int32} (S : SX k q1 L xs) (hL : L ≤ 3072) (I : Bd s) (jR : RLx s) (jSEQ : SEQ s) (p1 : iI s 89 = 1) (p2 : iI s 12 ≤ 8) {i : Int} (hi : 0 ≤ i ∧ i + 6 ≤ (L : Int)) {ce sl : Nat} (hce : ce + 29 ≤ 601024) (hsl : sl + 222 ≤ 7293034) (hk : ∀ (A : Nat → Nat) (t : PS), Bd t → RLx t → SEQ t → iI t 89 = 1 → iI t 12 ≤ 8 → WS k 1901 [(0, .ref q1), (1, .ref (A 0)), (2, .ref (A 179)), (3, .ref (A 517)), (4, .int (Int32.ofInt i))] [] (Wd A dT t) (ce + 29) (sl + 222)) : WS k 1594 [(0, .ref q1), (1, .ref (A 0)), (2, .ref (A 179)), (3, .ref (A 517)), (4, .int (Int32.ofInt i))] [] (Wd A dT s) ce sl := by
  have F : Fm [22, 23, 70, 73, 107, 77, 75, 78, 79, 80, 81] [33, 26, 27, 28, 29, 30, 31, 32, 152, 153, 154, 1460, 202, 204, 205, 206, 207, 208, 209, 210, 211, 212, 213, 214, 215, 216, 217, 218, 219, 220, 221, 222, 223, 224, 225, 226, 227, 203, 161, 230, 417, 418, 419, 420, 421, 422, 423, 424, 425, 426, 427, 428, 429, 430, 431, 432, 433, 434, 435, 436, 437, 438, 439, 440, 441, 442, 443, 444, 445, 446, 447, 448, 449, 450, 451, 452, 453, 454, 455, 456, 457, 459] s s := fm_rf _ _ s
  have b1 := bi_12 I
  have b2 := bi_89 I
  refine z_aload_n X (x := A 0) rfl (List.Mem.tail _ (List.Mem.head _)) (z_aload_n X (x := q1) rfl (List.Mem.head _) (z_load X (x := i) rfl (List.Mem.tail _ (List.Mem.tail _ (List.Mem.tail _ (List.Mem.tail _ (List.Mem.head _))))) (z_const X rfl (z_add X rfl (z_sld X S hL rfl (show 0 ≤ (i + 1) ∧ (i + 1) < (L : Int) by first | exact sx_in hi (by decide) | omega) ?_)))))
  have sr3 : rng (sc xs (i + 1)) := sc_rng
  refine z_aload_n X (x := q1) rfl (List.Mem.head _) (z_load X (x := i) rfl (List.Mem.tail _ (List.Mem.tail _ (List.Mem.tail _ (List.Mem.tail _ (List.Mem.head _))))) (z_const X rfl (z_add X rfl (z_sld X S hL rfl (show 0 ≤ (i + 2) ∧ (i + 2) < (L : Int) by first | exact sx_in hi (by decide) | omega) ?_))))
  have sr4 : rng (sc xs (i + 2)) := sc_rng
  refine z_aload_n X (x := q1) rfl (List.Mem.head _) (z_load X (x := i) rfl (List.Mem.tail _ (List.Mem.tail _ (List.Mem.tail _ (List.Mem.tail _ (List.Mem.head _))))) (z_const X rfl (z_add X rfl (z_sld X S hL rfl (show 0 ≤ (i + 3) ∧ (i + 3) < (L : Int) by first | exact sx_in hi (by decide) | omega) ?_))))
  have sr5 : rng (sc xs (i + 3)) := sc_rng
  refine z_aload_n X (x := q1) rfl (List.Mem.head _) (z_load X (x := i) rfl (List.Mem.tail _ (List.Mem.tail _ (List.Mem.tail _ (List.Mem.tail _ (List.Mem.head _))))) (z_const X rfl (z_add X rfl (z_sld X S hL rfl (show 0 ≤ (i + 4) ∧ (i + 4) < (L : Int) by first | exact sx_in hi (by decide) | omega) ?_))))
  have sr6 : rng (sc xs (i + 4)) := sc_rng
  have N7 : ∀ e8 : Int, ((((sc xs (i + 4)) = 0) ∧ e8 = 0) ∨ (((sc xs (i + 4)) ≠ 0) ∧ e8 = 1)) → WS k 1627 [(0, .ref q1), (1, .ref (A 0)), (2, .ref (A 179)), (3, .ref (A 517)), (4, .int (Int32.ofInt i))] [.int (Int32.ofInt e8), .int (Int32.ofInt (sc xs (i + 3))), .int (Int32.ofInt (sc xs (i + 2))), .int (Int32.ofInt (sc xs (i + 1))), .ref (A 0)] (Wd A dT s) ce sl := by
    intro e8 he8
    have re8 : 0 ≤ e8 ∧ e8 ≤ 1 := by first | (clear he8; omega) | omega
    refine z_aload_n X (x := A 517) rfl (List.Mem.tail _ (List.Mem.tail _ (List.Mem.tail _ (List.Mem.head _)))) (z_callL X (rm := rmN 345) (As := [.ref (A 0), .int (Int32.ofInt (sc xs (i + 1))), .int (Int32.ofInt (sc xs (i + 2))), .int (Int32.ofInt (sc xs (i + 3))), .int (Int32.ofInt e8), .ref (A 517)]) (st := []) rfl (by decide) rfl (by rw [E.1, E.2.1, E.2.2.1]; exact lw_did G I (by first | (clear he8; omega) | omega) (by first | (clear he8; omega) | omega) (by first | (clear he8; omega) | omega) (by first | (clear he8; omega) | omega)) ⟨by rw [E.2.2.2]; exact (show 11 + 1 ≤ 2048 by decide), by rw [E.2.2.2]; exact (show 8 + (7 + 11) + 229 ≤ 84000 by decide), by rw [E.2.2.2]; exact (show ce + 3 ≤ 601024 by first | exact rmo_1 hce (by decide) | exact rmo_2 hce (by decide) | omega), by rw [E.2.2.2]; exact (show sl + 18 ≤ 7293034 by first | exact rmo_1 hsl (by decide) | exact rmo_2 hsl (by decide) | omega)⟩ (Nat.le_of_ble_eq_true rfl) (fun vv A s9 hA2 hq => ?_) (fun ee A s9 hA2 hq => ?_))
    rotate_left
    · obtain ⟨Is9, Fs9, e10, hv, hrs9, hps9⟩ := hq; cases hv
    obtain ⟨Is9, Fs9, e10, hv, hrs9, hps9⟩ := hq
    cases hv
    rw [← hA2 0 (by decide)]
    rw [← hA2 179 (by decide)]
    rw [← hA2 517 (by decide)]
    have Gs9 := fm_tq F Fs9 rfl rfl
    have JRLx_s9 : RLx s9 := RLx_fm Fs9 (by decide) jR
    have JSEQ_s9 : SEQ s9 := SEQ_fm Fs9 (by decide) jSEQ
    have ws9_12 : iI s9 12 = iI s 12 := fm_iq Fs9 rfl
    have ws9_89 : iI s9 89 = iI s 89 := fm_iq Fs9 rfl
    show WS k 1631 [(0, .ref q1), (1, .ref (A 0)), (2, .ref (A 179)), (3, .ref (A 517)), (4, .int (Int32.ofInt i))] [.int (Int32.ofInt e10)] (Wd A dT s9) (ce + 3) (sl + 18)
    refine z_store X (lv' := [(5, .int (Int32.ofInt e10)), (0, .ref q1), (1, .ref (A 0)), (2, .ref (A 179)), (3, .ref (A 517)), (4, .int (Int32.ofInt i))]) rfl (by decide) (fun _ h => h) (z_aload_n X (x := A 179) rfl (List.Mem.tail _ (List.Mem.tail _ (List.Mem.tail _ (List.Mem.head _)))) (z_aload_n X (x := q1) rfl (List.Mem.tail _ (List.Mem.head _)) (z_load X (x := i) rfl (List.Mem.tail _ (List.Mem.tail _ (List.Mem.tail _ (List.Mem.tail _ (List.Mem.tail _ (List.Mem.head _)))))) (z_const X rfl (z_add X rfl (z_sld X S hL rfl (show 0 ≤ (i + 1) ∧ (i + 1) < (L : Int) by first | exact sx_in hi (by decide) | omega) ?_))))))
    have sr11 : rng (sc xs (i + 1)) := sc_rng
    refine z_aload_n X (x := q1) rfl (List.Mem.tail _ (List.Mem.head _)) (z_load X (x := i) rfl (List.Mem.tail _ (List.Mem.tail _ (List.Mem.tail _ (List.Mem.tail _ (List.Mem.tail _ (List.Mem.head _)))))) (z_const X rfl (z_add X rfl (z_sld X S hL rfl (show 0 ≤ (i + 2) ∧ (i + 2) < (L : Int) by first | exact sx_in hi (by decide) | omega) ?_))))
    have sr12 : rng (sc xs (i + 2)) := sc_rng
    refine z_aload_n X (x := q1) rfl (List.Mem.tail _ (List.Mem.head _)) (z_load X (x := i) rfl (List.Mem.tail _ (List.Mem.tail _ (List.Mem.tail _ (List.Mem.tail _ (List.Mem.tail _ (List.Mem.head _)))))) (z_const X rfl (z_add X rfl (z_sld X S hL rfl (show 0 ≤ (i + 3) ∧ (i + 3) < (L : Int) by first | exact sx_in hi (by decide) | omega) ?_))))
    have sr13 : rng (sc xs (i + 3)) := sc_rng
    refine z_aload_n X (x := q1) rfl (List.Mem.tail _ (List.Mem.head _)) (z_load X (x := i) rfl (List.Mem.tail _ (List.Mem.tail _ (List.Mem.tail _ (List.Mem.tail _ (List.Mem.tail _ (List.Mem.head _)))))) (z_const X rfl (z_add X rfl (z_sld X S hL rfl (show 0 ≤ (i + 4) ∧ (i + 4) < (L : Int) by first | exact sx_in hi (by decide) | omega) ?_))))
    have sr14 : rng (sc xs (i + 4)) := sc_rng
    have N15 : ∀ e16 : Int, ((((sc xs (i + 4)) = 0) ∧ e16 = 0) ∨ (((sc xs (i + 4)) ≠ 0) ∧ e16 = 1)) → WS k 1666 [(5, .int (Int32.ofInt e10)), (0, .ref q1), (1, .ref (A 0)), (2, .ref (A 179)), (3, .ref (A 517)), (4, .int (Int32.ofInt i))] [.int (Int32.ofInt e16), .int (Int32.ofInt (sc xs (i + 3))), .int (Int32.ofInt (sc xs (i + 2))), .int (Int32.ofInt (sc xs (i + 1))), .ref (A 179)] (Wd A dT s9) (ce + 3) (sl + 18) := by
      intro e16 he16
      have re16 : 0 ≤ e16 ∧ e16 ≤ 1 := by first | (clear he16 he8; omega) | (clear he8; omega) | omega
      refine z_callV X 179 (rm := rmN 287) (As := [.int (Int32.ofInt (sc xs (i + 1))), .int (Int32.ofInt (sc xs (i + 2))), .int (Int32.ofInt (sc xs (i + 3))), .int (Int32.ofInt e16)]) (st := []) rfl rfl (by decide) rfl (by rw [E.1, E.2.1, E.2.2.1]; exact k_did G Is9 JRLx_s9 (by first | exact ⟨sr11.1, sr11.2⟩ | omega) (by first | exact ⟨sr12.1, sr12.2⟩ | omega) (by first | exact ⟨sr13.1, sr13.2⟩ | omega) (by first | exact oq_54ac7134 re16.2 re16.1 he16 | omega)) ⟨by rw [E.2.2.2]; exact (show 10 + 1 ≤ 2048 from oq_5655e407), by rw [E.2.2.2]; exact (show 8 + (6 + 11) + 189 ≤ 84000 from oq_f8649f31), by rw [E.2.2.2]; exact (show (ce + 3) + 0 ≤ 601024 by first | (clear he16 he8; omega) | (clear he8; omega) | omega), by rw [E.2.2.2]; exact (show (sl + 18) + 0 ≤ 7293034 by first | (clear he16 he8; omega) | (clear he8; omega) | omega)⟩ (Nat.le_of_ble_eq_true rfl) (fun vv s17 hq => ?_) (fun ee s17 hq => ?_)
      rotate_left
      · obtain ⟨Is17, Fs17, JRLx_s17, e18, hv, hrs17, hps17⟩ := hq; cases hv
      obtain ⟨Is17, Fs17, JRLx_s17, e18, hv, hrs17, hps17⟩ := hq
      cases hv
      have Gs17 := fm_ts Gs9 Fs17 (by decide) (by decide +kernel)
      have JRLx_s17 : RLx s17 := RLx_fm Fs17 (by decide) JRLx_s9
      have JSEQ_s17 : SEQ s17 := SEQ_fm Fs17 (by decide) JSEQ_s9
      have ws17_12 : iI s17 12 = iI s9 12 := fm_iq Fs17 rfl
      have ws17_89 : iI s17 89 = iI s9 89 := fm_iq Fs17 rfl
      have wos17 : iO s17 = iO s9 := fm_o Fs17 (by decide)
      show WS k 1669 [(5, .int (Int32.ofInt e10)), (0, .ref q1), (1, .ref (A 0)), (2, .ref (A 179)), (3, .ref (A 517)), (4, .int (Int32.ofInt i))] [.int (Int32.ofInt e18)] (Wd A dT s17) (ce + 3) (sl + 18)
      refine z_store X (lv' := [(6, .int (Int32.ofInt e18)), (5, .int (Int32.ofInt e10)), (0, .ref q1), (1, .ref (A 0)), (2, .ref (A 179)), (3, .ref (A 517)), (4, .int (Int32.ofInt i))]) rfl (by decide) (fun _ h => h) (z_goto X (t := 1901) rfl rfl (w_widen (ce' := ce + 29) (sl' := sl + 222) (by first | exact Nat.le_add_right _ _ | exact Nat.add_le_add_left (by decide) _ | omega) (by first | exact Nat.le_add_right _ _ | exact Nat.add_le_add_left (by decide) _ | omega) ?_))
      exact WS_lv (lv := [(0, .ref q1), (1, .ref (A 0)), (2, .ref (A 179)), (3, .ref (A 517)), (4, .int (Int32.ofInt i))]) (List.forall_mem_cons.mpr ⟨(List.Mem.tail _ (List.Mem.tail _ (List.Mem.head _))), (List.forall_mem_cons.mpr ⟨(List.Mem.tail _ (List.Mem.tail _ (List.Mem.tail _ (List.Mem.head _)))), (List.forall_mem_cons.mpr ⟨(List.Mem.tail _ (List.Mem.tail _ (List.Mem.tail _ (List.Mem.tail _ (List.Mem.head _))))), (List.forall_mem_cons.mpr ⟨(List.Mem.tail _ (List.Mem.tail _ (List.Mem.tail _ (List.Mem.tail _ (List.Mem.tail _ (List.Mem.head _)))))), (List.forall_mem_cons.mpr ⟨(List.Mem.tail _ (List.Mem.tail _ (List.Mem.tail _ (List.Mem.tail _ (List.Mem.tail _ (List.Mem.tail _ (List.Mem.head _))))))), (fun q h => absurd h List.not_mem_nil)⟩)⟩)⟩)⟩)⟩) (hk A _ Is17 JRLx_s17 JSEQ_s17 (by first | exact oq_f34933ba ws17_89 ws9_89 p1 b2.1 | omega) (by first | exact oq_d7ce4408 ws17_12 ws9_12 p2 | omega))
    refine z_if_eq X (t := 1665) rfl rfl ⟨by first | exact sr14.1 | omega, by first | exact sr14.2 | omega⟩ (fun g19 => ?_) (fun g19 => ?_)
    ·
      exact z_const X rfl (N15 _ (Or.inl ⟨g19, rfl⟩))
    ·
      exact z_const X rfl (z_goto X (t := 1666) rfl rfl (N15 _ (Or.inr (⟨g19, rfl⟩))))
  refine z_if_eq X (t := 1626) rfl rfl ⟨by first | exact sr6.1 | omega, by first | exact sr6.2 | omega⟩ (fun g20 => ?_) (fun g20 => ?_)
  ·
    exact z_const X rfl (N7 _ (Or.inl ⟨g20, rfl⟩))
  ·
    exact z_const X rfl (z_goto X (t := 1627) rfl rfl (N7 _ (Or.inr (⟨g20, rfl⟩))))
theorem lc_37 (G : GX l s0 D tys a0 dT) (GR : RS0 s0) (SF : SF0 s0) (GT : TXs0 s0) {k : kx_T} (X : AX k 350 dT) (E : kL k = l ∧ kS0 k = s0 ∧ kD k = D ∧ kR k = room_1) {q1 L : Nat} {xs : Nat → Int32} (S : SX k q1 L xs) (hL : L ≤ 3072) (I : Bd s) (jR : RLx s) (jSEQ : SEQ s) (p1 : iI s 89 = 1) (p2 : iI s 12 ≤ 8) {i : Int} (hi : 0 ≤ i ∧ i + 6 ≤ (L : Int)) {ce sl : Nat} (hce : ce + 29 ≤ 601024) (hsl : sl + 222 ≤ 7293034) (hk : ∀ (A : Nat → Nat) (t : PS), Bd t → RLx t → SEQ t → iI t 89 = 1 → iI t 12 ≤ 8 → WS k 1901 [(0, .ref q1), (1, .ref (A 0)), (2, .ref (A 179)), (3, .ref (A 517)), (4, .int (Int32.ofInt i))] [] (Wd A dT t) (ce + 29) (sl + 222)) : WS k 1674 [(0, .ref q1), (1, .ref (A 0)), (2, .ref (A 179)), (3, .ref (A 517)), (4, .int (Int32.ofInt i))] [] (Wd A dT s) ce sl := by
  have F : Fm [71, 72, 73] [156, 155, 1460] s s := fm_rf _ _ s
  have b1 := bi_12 I
  have b2 := bi_89 I
  refine z_aload_n X (x := A 0) rfl (List.Mem.tail _ (List.Mem.head _)) (z_aload_n X (x := q1) rfl (List.Mem.head _) (z_load X (x := i) rfl (List.Mem.tail _ (List.Mem.tail _ (List.Mem.tail _ (List.Mem.tail _ (List.Mem.head _))))) (z_const X rfl (z_add X rfl (z_sld X S hL rfl (show 0 ≤ (i + 1) ∧ (i + 1) < (L : Int) by first | exact sx_in hi (by decide) | omega) ?_)))))
  have sr3 : rng (sc xs (i + 1)) := sc_rng
  refine z_aload_n X (x := A 517) rfl (List.Mem.tail _ (List.Mem.tail _ (List.Mem.tail _ (List.Mem.head _)))) (z_callL X (rm := rmN 346) (As := [.ref (A 0), .int (Int32.ofInt (sc xs (i + 1))), .ref (A 517)]) (st := []) rfl (by decide) rfl (by rw [E.1, E.2.1, E.2.2.1]; exact lw_fit G I (by omega)) ⟨by rw [E.2.2.2]; exact (show 10 + 1 ≤ 2048 by decide), by rw [E.2.2.2]; exact (show 8 + (4 + 11) + 190 ≤ 84000 by decide), by rw [E.2.2.2]; exact (show ce + 1 ≤ 601024 by first | exact rmo_1 hce (by decide) | exact rmo_2 hce (by decide) | omega), by rw [E.2.2.2]; exact (show sl + 6 ≤ 7293034 by first | exact rmo_1 hsl (by decide) | exact rmo_2 hsl (by decide) | omega)⟩ (Nat.le_of_ble_eq_true rfl) (fun vv A s4 hA2 hq => ?_) (fun ee A s4 hA2 hq => ?_))
  rotate_left
  · obtain ⟨Is4, Fs4, e5, hv, hrs4, hps4⟩ := hq; cases hv
  obtain ⟨Is4, Fs4, e5, hv, hrs4, hps4⟩ := hq
  cases hv
  rw [← hA2 0 (by decide)]
  rw [← hA2 179 (by decide)]
  rw [← hA2 517 (by decide)]
  have Gs4 := fm_tq F Fs4 rfl rfl
  have JRLx_s4 : RLx s4 := RLx_fm Fs4 (by decide) jR
  have JSEQ_s4 : SEQ s4 := SEQ_fm Fs4 (by decide) jSEQ
  have ws4_12 : iI s4 12 = iI s 12 := fm_iq Fs4 rfl
  have ws4_89 : iI s4 89 = iI s 89 := fm_iq Fs4 rfl
  show WS k 1685 [(0, .ref q1), (1, .ref (A 0)), (2, .ref (A 179)), (3, .ref (A 517)), (4, .int (Int32.ofInt i))] [.int (Int32.ofInt e5)] (Wd A dT s4) (ce + 1) (sl + 6)
  refine z_store X (lv' := [(5, .int (Int32.ofInt e5)), (0, .ref q1), (1, .ref (A 0)), (2, .ref (A 179)), (3, .ref (A 517)), (4, .int (Int32.ofInt i))]) rfl (by decide) (fun _ h => h) (z_aload_n X (x := A 179) rfl (List.Mem.tail _ (List.Mem.tail _ (List.Mem.tail _ (List.Mem.head _)))) (z_aload_n X (x := q1) rfl (List.Mem.tail _ (List.Mem.head _)) (z_load X (x := i) rfl (List.Mem.tail _ (List.Mem.tail _ (List.Mem.tail _ (List.Mem.tail _ (List.Mem.tail _ (List.Mem.head _)))))) (z_const X rfl (z_add X rfl (z_sld X S hL rfl (show 0 ≤ (i + 1) ∧ (i + 1) < (L : Int) by first | exact sx_in hi (by decide) | omega) ?_))))))
  have sr6 : rng (sc xs (i + 1)) := sc_rng
  refine z_callV X 179 (rm := rmN 289) (As := [.int (Int32.ofInt (sc xs (i + 1)))]) (st := []) rfl rfl (by decide) rfl (by rw [E.1, E.2.1, E.2.2.1]; exact k_fit G Is4 (by first | exact ⟨sr6.1, sr6.2⟩ | omega)) ⟨by rw [E.2.2.2]; exact (show 8 + 1 ≤ 2048 from oq_5bf2829b), by rw [E.2.2.2]; exact (show 8 + (7 + 11) + 145 ≤ 84000 from oq_8fd475f0), by rw [E.2.2.2]; exact (show (ce + 1) + 0 ≤ 601024 by omega), by rw [E.2.2.2]; exact (show (sl + 6) + 0 ≤ 7293034 by omega)⟩ (Nat.le_of_ble_eq_true rfl) (fun vv s7 hq => ?_) (fun ee s7 hq => ?_)
  rotate_left
  · obtain ⟨Is7, Fs7, e8, hv, hrs7, hps7⟩ := hq; cases hv
  obtain ⟨Is7, Fs7, e8, hv, hrs7, hps7⟩ := hq
  cases hv
  have Gs7 := fm_tq Gs4 Fs7 rfl rfl
  have JRLx_s7 : RLx s7 := RLx_fm Fs7 (by decide) JRLx_s4
  have JSEQ_s7 : SEQ s7 := SEQ_fm Fs7 (by decide) JSEQ_s4
  have ws7_12 : iI s7 12 = iI s4 12 := fm_iq Fs7 rfl
  have ws7_89 : iI s7 89 = iI s4 89 := fm_iq Fs7 rfl
  have wos7 : iO s7 = iO s4 := fm_o Fs7 (by decide)
  show WS k 1697 [(5, .int (Int32.ofInt e5)), (0, .ref q1), (1, .ref (A 0)), (2, .ref (A 179)), (3, .ref (A 517)), (4, .int (Int32.ofInt i))] [.int (Int32.ofInt e8)] (Wd A dT s7) (ce + 1) (sl + 6)
  refine z_store X (lv' := [(6, .int (Int32.ofInt e8)), (5, .int (Int32.ofInt e5)), (0, .ref q1), (1, .ref (A 0)), (2, .ref (A 179)), (3, .ref (A 517)), (4, .int (Int32.ofInt i))]) rfl (by decide) (fun _ h => h) (z_goto X (t := 1901) rfl rfl (w_widen (ce' := ce + 29) (sl' := sl + 222) (by first | exact Nat.le_add_right _ _ | exact Nat.add_le_add_left (by decide) _ | omega) (by first | exact Nat.le_add_right _ _ | exact Nat.add_le_add_left (by decide) _ | omega) ?_))
  exact WS_lv (lv := [(0, .ref q1), (1, .ref (A 0)), (2, .ref (A 179)), (3, .ref (A 517)), (4, .int (Int32.ofInt i))]) (List.forall_mem_cons.mpr ⟨(List.Mem.tail _ (List.Mem.tail _ (List.Mem.head _))), (List.forall_mem_cons.mpr ⟨(List.Mem.tail _ (List.Mem.tail _ (List.Mem.tail _ (List.Mem.head _)))), (List.forall_mem_cons.mpr ⟨(List.Mem.tail _ (List.Mem.tail _ (List.Mem.tail _ (List.Mem.tail _ (List.Mem.head _))))), (List.forall_mem_cons.mpr ⟨(List.Mem.tail _ (List.Mem.tail _ (List.Mem.tail _ (List.Mem.tail _ (List.Mem.tail _ (List.Mem.head _)))))), (List.forall_mem_cons.mpr ⟨(List.Mem.tail _ (List.Mem.tail _ (List.Mem.tail _ (List.Mem.tail _ (List.Mem.tail _ (List.Mem.tail _ (List.Mem.head _))))))), (fun q h => absurd h List.not_mem_nil)⟩)⟩)⟩)⟩)⟩) (hk A _ Is7 JRLx_s7 JSEQ_s7 (by first | exact oq_f34933ba ws7_89 ws4_89 p1 b2.1 | omega) (by first | exact oq_d7ce4408 ws7_12 ws4_12 p2 | omega))
theorem lc_38 (G : GX l s0 D tys a0 dT) (GR : RS0 s0) (SF : SF0 s0) (GT : TXs0 s0) {k : kx_T} (X : AX k 350 dT) (E : kL k = l ∧ kS0 k = s0 ∧ kD k = D ∧ kR k = room_1) {q1 L : Nat} {xs : Nat → Int32} (S : SX k q1 L xs) (hL : L ≤ 3072) (I : Bd s) (jR : RLx s) (jSEQ : SEQ s) (p1 : iI s 89 = 1) (p2 : iI s 12 ≤ 8) {i : Int} (hi : 0 ≤ i ∧ i + 6 ≤ (L : Int)) {ce sl : Nat} (hce : ce + 29 ≤ 601024) (hsl : sl + 222 ≤ 7293034) (hk : ∀ (A : Nat → Nat) (t : PS), Bd t → RLx t → SEQ t → iI t 89 = 1 → iI t 12 ≤ 8 → WS k 1901 [(0, .ref q1), (1, .ref (A 0)), (2, .ref (A 179)), (3, .ref (A 517)), (4, .int (Int32.ofInt i))] [] (Wd A dT t) (ce + 29) (sl + 222)) : WS k 1702 [(0, .ref q1), (1, .ref (A 0)), (2, .ref (A 179)), (3, .ref (A 517)), (4, .int (Int32.ofInt i))] [] (Wd A dT s) ce sl := by
  have F : Fm [22, 23, 73, 77, 75, 78, 79, 80, 81] [33, 26, 27, 28, 29, 30, 31, 32, 20, 34, 1460, 202, 204, 205, 206, 207, 208, 209, 210, 211, 212, 213, 214, 215, 216, 217, 218, 219, 220, 221, 222, 223, 224, 225, 226, 227, 203, 161, 230] s s := fm_rf _ _ s
  have b1 := bi_12 I
  have b2 := bi_89 I
  refine z_aload_n X (x := A 0) rfl (List.Mem.tail _ (List.Mem.head _)) (z_aload_n X (x := q1) rfl (List.Mem.head _) (z_load X (x := i) rfl (List.Mem.tail _ (List.Mem.tail _ (List.Mem.tail _ (List.Mem.tail _ (List.Mem.head _))))) (z_const X rfl (z_add X rfl (z_sld X S hL rfl (show 0 ≤ (i + 1) ∧ (i + 1) < (L : Int) by first | exact sx_in hi (by decide) | omega) ?_)))))
  have sr3 : rng (sc xs (i + 1)) := sc_rng
  refine z_aload_n X (x := q1) rfl (List.Mem.head _) (z_load X (x := i) rfl (List.Mem.tail _ (List.Mem.tail _ (List.Mem.tail _ (List.Mem.tail _ (List.Mem.head _))))) (z_const X rfl (z_add X rfl (z_sld X S hL rfl (show 0 ≤ (i + 2) ∧ (i + 2) < (L : Int) by first | exact sx_in hi (by decide) | omega) ?_))))
  have sr4 : rng (sc xs (i + 2)) := sc_rng
  refine z_aload_n X (x := q1) rfl (List.Mem.head _) (z_load X (x := i) rfl (List.Mem.tail _ (List.Mem.tail _ (List.Mem.tail _ (List.Mem.tail _ (List.Mem.head _))))) (z_const X rfl (z_add X rfl (z_sld X S hL rfl (show 0 ≤ (i + 3) ∧ (i + 3) < (L : Int) by first | exact sx_in hi (by decide) | omega) ?_))))
  have sr5 : rng (sc xs (i + 3)) := sc_rng
  refine z_aload_n X (x := q1) rfl (List.Mem.head _) (z_load X (x := i) rfl (List.Mem.tail _ (List.Mem.tail _ (List.Mem.tail _ (List.Mem.tail _ (List.Mem.head _))))) (z_const X rfl (z_add X rfl (z_sld X S hL rfl (show 0 ≤ (i + 4) ∧ (i + 4) < (L : Int) by first | exact sx_in hi (by decide) | omega) ?_))))
  have sr6 : rng (sc xs (i + 4)) := sc_rng
  have N7 : ∀ e8 : Int, ((((sc xs (i + 4)) = 0) ∧ e8 = 0) ∨ (((sc xs (i + 4)) ≠ 0) ∧ e8 = 1)) → WS k 1735 [(0, .ref q1), (1, .ref (A 0)), (2, .ref (A 179)), (3, .ref (A 517)), (4, .int (Int32.ofInt i))] [.int (Int32.ofInt e8), .int (Int32.ofInt (sc xs (i + 3))), .int (Int32.ofInt (sc xs (i + 2))), .int (Int32.ofInt (sc xs (i + 1))), .ref (A 0)] (Wd A dT s) ce sl := by
    intro e8 he8
    have re8 : 0 ≤ e8 ∧ e8 ≤ 1 := by first | (clear he8; omega) | omega
    refine z_aload_n X (x := A 517) rfl (List.Mem.tail _ (List.Mem.tail _ (List.Mem.tail _ (List.Mem.head _)))) (z_callL X (rm := rmN 347) (As := [.ref (A 0), .int (Int32.ofInt (sc xs (i + 1))), .int (Int32.ofInt (sc xs (i + 2))), .int (Int32.ofInt (sc xs (i + 3))), .int (Int32.ofInt e8), .ref (A 517)]) (st := []) rfl (by decide) rfl (by rw [E.1, E.2.1, E.2.2.1]; exact lw_lead G I (by first | (clear he8; omega) | omega) (by first | (clear he8; omega) | omega) (by first | (clear he8; omega) | omega) (by first | (clear he8; omega) | omega)) ⟨by rw [E.2.2.2]; exact (show 11 + 1 ≤ 2048 by decide), by rw [E.2.2.2]; exact (show 8 + (7 + 11) + 230 ≤ 84000 by decide), by rw [E.2.2.2]; exact (show ce + 2 ≤ 601024 by first | exact rmo_1 hce (by decide) | exact rmo_2 hce (by decide) | omega), by rw [E.2.2.2]; exact (show sl + 12 ≤ 7293034 by first | exact rmo_1 hsl (by decide) | exact rmo_2 hsl (by decide) | omega)⟩ (Nat.le_of_ble_eq_true rfl) (fun vv A s9 hA2 hq => ?_) (fun ee A s9 hA2 hq => ?_))
    rotate_left
    · obtain ⟨Is9, Fs9, e10, hv, hrs9, hps9⟩ := hq; cases hv
    obtain ⟨Is9, Fs9, e10, hv, hrs9, hps9⟩ := hq
    cases hv
    rw [← hA2 0 (by decide)]
    rw [← hA2 179 (by decide)]
    rw [← hA2 517 (by decide)]
    have Gs9 := fm_tq F Fs9 rfl rfl
    have JRLx_s9 : RLx s9 := RLx_fm Fs9 (by decide) jR
    have JSEQ_s9 : SEQ s9 := SEQ_fm Fs9 (by decide) jSEQ
    have ws9_12 : iI s9 12 = iI s 12 := fm_iq Fs9 rfl
    have ws9_89 : iI s9 89 = iI s 89 := fm_iq Fs9 rfl
    show WS k 1739 [(0, .ref q1), (1, .ref (A 0)), (2, .ref (A 179)), (3, .ref (A 517)), (4, .int (Int32.ofInt i))] [.int (Int32.ofInt e10)] (Wd A dT s9) (ce + 2) (sl + 12)
    refine z_store X (lv' := [(5, .int (Int32.ofInt e10)), (0, .ref q1), (1, .ref (A 0)), (2, .ref (A 179)), (3, .ref (A 517)), (4, .int (Int32.ofInt i))]) rfl (by decide) (fun _ h => h) (z_aload_n X (x := A 179) rfl (List.Mem.tail _ (List.Mem.tail _ (List.Mem.tail _ (List.Mem.head _)))) (z_aload_n X (x := q1) rfl (List.Mem.tail _ (List.Mem.head _)) (z_load X (x := i) rfl (List.Mem.tail _ (List.Mem.tail _ (List.Mem.tail _ (List.Mem.tail _ (List.Mem.tail _ (List.Mem.head _)))))) (z_const X rfl (z_add X rfl (z_sld X S hL rfl (show 0 ≤ (i + 1) ∧ (i + 1) < (L : Int) by first | exact sx_in hi (by decide) | omega) ?_))))))
    have sr11 : rng (sc xs (i + 1)) := sc_rng
    refine z_aload_n X (x := q1) rfl (List.Mem.tail _ (List.Mem.head _)) (z_load X (x := i) rfl (List.Mem.tail _ (List.Mem.tail _ (List.Mem.tail _ (List.Mem.tail _ (List.Mem.tail _ (List.Mem.head _)))))) (z_const X rfl (z_add X rfl (z_sld X S hL rfl (show 0 ≤ (i + 2) ∧ (i + 2) < (L : Int) by first | exact sx_in hi (by decide) | omega) ?_))))
    have sr12 : rng (sc xs (i + 2)) := sc_rng
    refine z_aload_n X (x := q1) rfl (List.Mem.tail _ (List.Mem.head _)) (z_load X (x := i) rfl (List.Mem.tail _ (List.Mem.tail _ (List.Mem.tail _ (List.Mem.tail _ (List.Mem.tail _ (List.Mem.head _)))))) (z_const X rfl (z_add X rfl (z_sld X S hL rfl (show 0 ≤ (i + 3) ∧ (i + 3) < (L : Int) by first | exact sx_in hi (by decide) | omega) ?_))))
    have sr13 : rng (sc xs (i + 3)) := sc_rng
    refine z_aload_n X (x := q1) rfl (List.Mem.tail _ (List.Mem.head _)) (z_load X (x := i) rfl (List.Mem.tail _ (List.Mem.tail _ (List.Mem.tail _ (List.Mem.tail _ (List.Mem.tail _ (List.Mem.head _)))))) (z_const X rfl (z_add X rfl (z_sld X S hL rfl (show 0 ≤ (i + 4) ∧ (i + 4) < (L : Int) by first | exact sx_in hi (by decide) | omega) ?_))))
    have sr14 : rng (sc xs (i + 4)) := sc_rng
    have N15 : ∀ e16 : Int, ((((sc xs (i + 4)) = 0) ∧ e16 = 0) ∨ (((sc xs (i + 4)) ≠ 0) ∧ e16 = 1)) → WS k 1774 [(5, .int (Int32.ofInt e10)), (0, .ref q1), (1, .ref (A 0)), (2, .ref (A 179)), (3, .ref (A 517)), (4, .int (Int32.ofInt i))] [.int (Int32.ofInt e16), .int (Int32.ofInt (sc xs (i + 3))), .int (Int32.ofInt (sc xs (i + 2))), .int (Int32.ofInt (sc xs (i + 1))), .ref (A 179)] (Wd A dT s9) (ce + 2) (sl + 12) := by
      intro e16 he16
      have re16 : 0 ≤ e16 ∧ e16 ≤ 1 := by first | (clear he16 he8; omega) | (clear he8; omega) | omega
      refine z_callV X 179 (rm := rmN 290) (As := [.int (Int32.ofInt (sc xs (i + 1))), .int (Int32.ofInt (sc xs (i + 2))), .int (Int32.ofInt (sc xs (i + 3))), .int (Int32.ofInt e16)]) (st := []) rfl rfl (by decide) rfl (by rw [E.1, E.2.1, E.2.2.1]; exact k_lead G Is9 JRLx_s9 (by first | exact ⟨sr11.1, sr11.2⟩ | omega) (by first | exact ⟨sr12.1, sr12.2⟩ | omega) (by first | exact ⟨sr13.1, sr13.2⟩ | omega) (by first | exact oq_54ac7134 re16.2 re16.1 he16 | omega)) ⟨by rw [E.2.2.2]; exact (show 37 + 1 ≤ 2048 from oq_2596b3cb), by rw [E.2.2.2]; exact (show 8 + (10 + 11) + 1578 ≤ 84000 from oq_d572abc1), by rw [E.2.2.2]; exact (show (ce + 2) + 1 ≤ 601024 by first | (clear he16 he8; omega) | (clear he8; omega) | omega), by rw [E.2.2.2]; exact (show (sl + 12) + 12 ≤ 7293034 by first | (clear he16 he8; omega) | (clear he8; omega) | omega)⟩ (Nat.le_of_ble_eq_true rfl) (fun vv s17 hq => ?_) (fun ee s17 hq => ?_)
      rotate_left
      · obtain ⟨Is17, Fs17, JRLx_s17, e18, hv, hrs17, hps17⟩ := hq; cases hv
      obtain ⟨Is17, Fs17, JRLx_s17, e18, hv, hrs17, hps17⟩ := hq
      cases hv
      have Gs17 := fm_tq Gs9 Fs17 rfl rfl
      have JRLx_s17 : RLx s17 := RLx_fm Fs17 (by decide) JRLx_s9
      have JSEQ_s17 : SEQ s17 := SEQ_fm Fs17 (by decide) JSEQ_s9
      have ws17_12 : iI s17 12 = iI s9 12 := fm_iq Fs17 rfl
      have ws17_89 : iI s17 89 = iI s9 89 := fm_iq Fs17 rfl
      have wos17 : iO s17 = iO s9 := fm_o Fs17 (by decide)
      show WS k 1777 [(5, .int (Int32.ofInt e10)), (0, .ref q1), (1, .ref (A 0)), (2, .ref (A 179)), (3, .ref (A 517)), (4, .int (Int32.ofInt i))] [.int (Int32.ofInt e18)] (Wd A dT s17) ((ce + 2) + 1) ((sl + 12) + 12)
      refine z_store X (lv' := [(6, .int (Int32.ofInt e18)), (5, .int (Int32.ofInt e10)), (0, .ref q1), (1, .ref (A 0)), (2, .ref (A 179)), (3, .ref (A 517)), (4, .int (Int32.ofInt i))]) rfl (by decide) (fun _ h => h) (z_goto X (t := 1901) rfl rfl (w_widen (ce' := ce + 29) (sl' := sl + 222) (by first | exact Nat.le_add_right _ _ | exact Nat.add_le_add_left (by decide) _ | omega) (by first | exact Nat.le_add_right _ _ | exact Nat.add_le_add_left (by decide) _ | omega) ?_))
      exact WS_lv (lv := [(0, .ref q1), (1, .ref (A 0)), (2, .ref (A 179)), (3, .ref (A 517)), (4, .int (Int32.ofInt i))]) (List.forall_mem_cons.mpr ⟨(List.Mem.tail _ (List.Mem.tail _ (List.Mem.head _))), (List.forall_mem_cons.mpr ⟨(List.Mem.tail _ (List.Mem.tail _ (List.Mem.tail _ (List.Mem.head _)))), (List.forall_mem_cons.mpr ⟨(List.Mem.tail _ (List.Mem.tail _ (List.Mem.tail _ (List.Mem.tail _ (List.Mem.head _))))), (List.forall_mem_cons.mpr ⟨(List.Mem.tail _ (List.Mem.tail _ (List.Mem.tail _ (List.Mem.tail _ (List.Mem.tail _ (List.Mem.head _)))))), (List.forall_mem_cons.mpr ⟨(List.Mem.tail _ (List.Mem.tail _ (List.Mem.tail _ (List.Mem.tail _ (List.Mem.tail _ (List.Mem.tail _ (List.Mem.head _))))))), (fun q h => absurd h List.not_mem_nil)⟩)⟩)⟩)⟩)⟩) (hk A _ Is17 JRLx_s17 JSEQ_s17 (by first | exact oq_f34933ba ws17_89 ws9_89 p1 b2.1 | omega) (by first | exact oq_d7ce4408 ws17_12 ws9_12 p2 | omega))
    refine z_if_eq X (t := 1773) rfl rfl ⟨by first | exact sr14.1 | omega, by first | exact sr14.2 | omega⟩ (fun g19 => ?_) (fun g19 => ?_)
    ·
      exact z_const X rfl (N15 _ (Or.inl ⟨g19, rfl⟩))
    ·
      exact z_const X rfl (z_goto X (t := 1774) rfl rfl (N15 _ (Or.inr (⟨g19, rfl⟩))))
  refine z_if_eq X (t := 1734) rfl rfl ⟨by first | exact sr6.1 | omega, by first | exact sr6.2 | omega⟩ (fun g20 => ?_) (fun g20 => ?_)
  ·
    exact z_const X rfl (N7 _ (Or.inl ⟨g20, rfl⟩))
  ·
    exact z_const X rfl (z_goto X (t := 1735) rfl rfl (N7 _ (Or.inr (⟨g20, rfl⟩))))
theorem lc_39 (G : GX l s0 D tys a0 dT) (GR : RS0 s0) (SF : SF0 s0) (GT : TXs0 s0) {k : kx_T} (X : AX k 350 dT) (E : kL k = l ∧ kS0 k = s0 ∧ kD k = D ∧ kR k = room_1) {q1 L : Nat} {xs : Nat → Int32} (S : SX k q1 L xs) (hL : L ≤ 3072) (I : Bd s) (jR : RLx s) (jSEQ : SEQ s) (p1 : iI s 89 = 1) (p2 : iI s 12 ≤ 8) {i : Int} (hi : 0 ≤ i ∧ i + 6 ≤ (L : Int)) {ce sl : Nat} (hce : ce + 29 ≤ 601024) (hsl : sl + 222 ≤ 7293034) (hk : ∀ (A : Nat → Nat) (t : PS), Bd t → RLx t → SEQ t → iI t 89 = 1 → iI t 12 ≤ 8 → WS k 1901 [(0, .ref q1), (1, .ref (A 0)), (2, .ref (A 179)), (3, .ref (A 517)), (4, .int (Int32.ofInt i))] [] (Wd A dT t) (ce + 29) (sl + 222)) : WS k 1782 [(0, .ref q1), (1, .ref (A 0)), (2, .ref (A 179)), (3, .ref (A 517)), (4, .int (Int32.ofInt i))] [] (Wd A dT s) ce sl := by
  have F : Fm [22, 23, 24, 73, 77, 75, 78, 79, 80, 81] [33, 26, 27, 28, 29, 30, 31, 32, 20, 36, 37, 35, 21, 1022, 1023, 1460, 202, 204, 205, 206, 207, 208, 209, 210, 211, 212, 213, 214, 215, 216, 217, 218, 219, 220, 221, 222, 223, 224, 225, 226, 227, 203, 161, 230, 233, 228] s s := fm_rf _ _ s
  have b1 := bi_12 I
  have b2 := bi_89 I
  refine z_aload_n X (x := A 0) rfl (List.Mem.tail _ (List.Mem.head _)) (z_aload_n X (x := q1) rfl (List.Mem.head _) (z_load X (x := i) rfl (List.Mem.tail _ (List.Mem.tail _ (List.Mem.tail _ (List.Mem.tail _ (List.Mem.head _))))) (z_const X rfl (z_add X rfl (z_sld X S hL rfl (show 0 ≤ (i + 1) ∧ (i + 1) < (L : Int) by first | exact sx_in hi (by decide) | omega) ?_)))))
  have sr3 : rng (sc xs (i + 1)) := sc_rng
  refine z_aload_n X (x := q1) rfl (List.Mem.head _) (z_load X (x := i) rfl (List.Mem.tail _ (List.Mem.tail _ (List.Mem.tail _ (List.Mem.tail _ (List.Mem.head _))))) (z_const X rfl (z_add X rfl (z_sld X S hL rfl (show 0 ≤ (i + 2) ∧ (i + 2) < (L : Int) by first | exact sx_in hi (by decide) | omega) ?_))))
  have sr4 : rng (sc xs (i + 2)) := sc_rng
  refine z_aload_n X (x := A 517) rfl (List.Mem.tail _ (List.Mem.tail _ (List.Mem.tail _ (List.Mem.head _)))) (z_callL X (rm := rmN 348) (As := [.ref (A 0), .int (Int32.ofInt (sc xs (i + 1))), .int (Int32.ofInt (sc xs (i + 2))), .ref (A 517)]) (st := []) rfl (by decide) rfl (by rw [E.1, E.2.1, E.2.2.1]; exact lw_worth G I (by omega) (by omega)) ⟨by rw [E.2.2.2]; exact (show 13 + 1 ≤ 2048 by decide), by rw [E.2.2.2]; exact (show 8 + (5 + 11) + 262 ≤ 84000 by decide), by rw [E.2.2.2]; exact (show ce + 3 ≤ 601024 by first | exact rmo_1 hce (by decide) | exact rmo_2 hce (by decide) | omega), by rw [E.2.2.2]; exact (show sl + 18 ≤ 7293034 by first | exact rmo_1 hsl (by decide) | exact rmo_2 hsl (by decide) | omega)⟩ (Nat.le_of_ble_eq_true rfl) (fun vv A s5 hA2 hq => ?_) (fun ee A s5 hA2 hq => ?_))
  rotate_left
  · obtain ⟨Is5, Fs5, e6, hv, hrs5, hps5⟩ := hq; cases hv
  obtain ⟨Is5, Fs5, e6, hv, hrs5, hps5⟩ := hq
  cases hv
  rw [← hA2 0 (by decide)]
  rw [← hA2 179 (by decide)]
  rw [← hA2 517 (by decide)]
  have Gs5 := fm_tq F Fs5 rfl rfl
  have JRLx_s5 : RLx s5 := RLx_fm Fs5 (by decide) jR
  have JSEQ_s5 : SEQ s5 := SEQ_fm Fs5 (by decide) jSEQ
  have ws5_12 : iI s5 12 = iI s 12 := fm_iq Fs5 rfl
  have ws5_89 : iI s5 89 = iI s 89 := fm_iq Fs5 rfl
  show WS k 1799 [(0, .ref q1), (1, .ref (A 0)), (2, .ref (A 179)), (3, .ref (A 517)), (4, .int (Int32.ofInt i))] [.int (Int32.ofInt e6)] (Wd A dT s5) (ce + 3) (sl + 18)
  refine z_store X (lv' := [(5, .int (Int32.ofInt e6)), (0, .ref q1), (1, .ref (A 0)), (2, .ref (A 179)), (3, .ref (A 517)), (4, .int (Int32.ofInt i))]) rfl (by decide) (fun _ h => h) (z_aload_n X (x := A 179) rfl (List.Mem.tail _ (List.Mem.tail _ (List.Mem.tail _ (List.Mem.head _)))) (z_aload_n X (x := q1) rfl (List.Mem.tail _ (List.Mem.head _)) (z_load X (x := i) rfl (List.Mem.tail _ (List.Mem.tail _ (List.Mem.tail _ (List.Mem.tail _ (List.Mem.tail _ (List.Mem.head _)))))) (z_const X rfl (z_add X rfl (z_sld X S hL rfl (show 0 ≤ (i + 1) ∧ (i + 1) < (L : Int) by first | exact sx_in hi (by decide) | omega) ?_))))))
  have sr7 : rng (sc xs (i + 1)) := sc_rng
  refine z_aload_n X (x := q1) rfl (List.Mem.tail _ (List.Mem.head _)) (z_load X (x := i) rfl (List.Mem.tail _ (List.Mem.tail _ (List.Mem.tail _ (List.Mem.tail _ (List.Mem.tail _ (List.Mem.head _)))))) (z_const X rfl (z_add X rfl (z_sld X S hL rfl (show 0 ≤ (i + 2) ∧ (i + 2) < (L : Int) by first | exact sx_in hi (by decide) | omega) ?_))))
  have sr8 : rng (sc xs (i + 2)) := sc_rng
  refine z_callV X 179 (rm := rmN 291) (As := [.int (Int32.ofInt (sc xs (i + 1))), .int (Int32.ofInt (sc xs (i + 2)))]) (st := []) rfl rfl (by decide) rfl (by rw [E.1, E.2.1, E.2.2.1]; exact k_worth G Is5 JRLx_s5 (by first | exact ⟨sr7.1, sr7.2⟩ | omega) (by first | exact ⟨sr8.1, sr8.2⟩ | omega)) ⟨by rw [E.2.2.2]; exact (show 41 + 1 ≤ 2048 from oq_2c2f0271), by rw [E.2.2.2]; exact (show 8 + (6 + 11) + 1663 ≤ 84000 from oq_b102b2ee), by rw [E.2.2.2]; exact (show (ce + 3) + 0 ≤ 601024 by omega), by rw [E.2.2.2]; exact (show (sl + 18) + 0 ≤ 7293034 by omega)⟩ (Nat.le_of_ble_eq_true rfl) (fun vv s9 hq => ?_) (fun ee s9 hq => ?_)
  rotate_left
  · obtain ⟨Is9, Fs9, JRLx_s9, e10, hv, hrs9, hps9⟩ := hq; cases hv
  obtain ⟨Is9, Fs9, JRLx_s9, e10, hv, hrs9, hps9⟩ := hq
  cases hv
  have Gs9 := fm_tq Gs5 Fs9 rfl rfl
  have JRLx_s9 : RLx s9 := RLx_fm Fs9 (by decide) JRLx_s5
  have JSEQ_s9 : SEQ s9 := SEQ_fm Fs9 (by decide) JSEQ_s5
  have ws9_12 : iI s9 12 = iI s5 12 := fm_iq Fs9 rfl
  have ws9_89 : iI s9 89 = iI s5 89 := fm_iq Fs9 rfl
  have wos9 : iO s9 = iO s5 := fm_o Fs9 (by decide)
  show WS k 1817 [(5, .int (Int32.ofInt e6)), (0, .ref q1), (1, .ref (A 0)), (2, .ref (A 179)), (3, .ref (A 517)), (4, .int (Int32.ofInt i))] [.int (Int32.ofInt e10)] (Wd A dT s9) (ce + 3) (sl + 18)
  refine z_store X (lv' := [(6, .int (Int32.ofInt e10)), (5, .int (Int32.ofInt e6)), (0, .ref q1), (1, .ref (A 0)), (2, .ref (A 179)), (3, .ref (A 517)), (4, .int (Int32.ofInt i))]) rfl (by decide) (fun _ h => h) (z_goto X (t := 1901) rfl rfl (w_widen (ce' := ce + 29) (sl' := sl + 222) (by first | exact Nat.le_add_right _ _ | exact Nat.add_le_add_left (by decide) _ | omega) (by first | exact Nat.le_add_right _ _ | exact Nat.add_le_add_left (by decide) _ | omega) ?_))
  exact WS_lv (lv := [(0, .ref q1), (1, .ref (A 0)), (2, .ref (A 179)), (3, .ref (A 517)), (4, .int (Int32.ofInt i))]) (List.forall_mem_cons.mpr ⟨(List.Mem.tail _ (List.Mem.tail _ (List.Mem.head _))), (List.forall_mem_cons.mpr ⟨(List.Mem.tail _ (List.Mem.tail _ (List.Mem.tail _ (List.Mem.head _)))), (List.forall_mem_cons.mpr ⟨(List.Mem.tail _ (List.Mem.tail _ (List.Mem.tail _ (List.Mem.tail _ (List.Mem.head _))))), (List.forall_mem_cons.mpr ⟨(List.Mem.tail _ (List.Mem.tail _ (List.Mem.tail _ (List.Mem.tail _ (List.Mem.tail _ (List.Mem.head _)))))), (List.forall_mem_cons.mpr ⟨(List.Mem.tail _ (List.Mem.tail _ (List.Mem.tail _ (List.Mem.tail _ (List.Mem.tail _ (List.Mem.tail _ (List.Mem.head _))))))), (fun q h => absurd h List.not_mem_nil)⟩)⟩)⟩)⟩)⟩) (hk A _ Is9 JRLx_s9 JSEQ_s9 (by first | exact oq_f34933ba ws9_89 ws5_89 p1 b2.1 | omega) (by first | exact oq_d7ce4408 ws9_12 ws5_12 p2 | omega))
theorem lc_40 (G : GX l s0 D tys a0 dT) (GR : RS0 s0) (SF : SF0 s0) (GT : TXs0 s0) {k : kx_T} (X : AX k 350 dT) (E : kL k = l ∧ kS0 k = s0 ∧ kD k = D ∧ kR k = room_1) {q1 L : Nat} {xs : Nat → Int32} (S : SX k q1 L xs) (hL : L ≤ 3072) (I : Bd s) (jR : RLx s) (jSEQ : SEQ s) (p1 : iI s 89 = 1) (p2 : iI s 12 ≤ 8) {i : Int} (hi : 0 ≤ i ∧ i + 6 ≤ (L : Int)) {ce sl : Nat} (hce : ce + 29 ≤ 601024) (hsl : sl + 222 ≤ 7293034) (hk : ∀ (A : Nat → Nat) (t : PS), Bd t → RLx t → SEQ t → iI t 89 = 1 → iI t 12 ≤ 8 → WS k 1901 [(0, .ref q1), (1, .ref (A 0)), (2, .ref (A 179)), (3, .ref (A 517)), (4, .int (Int32.ofInt i))] [] (Wd A dT t) (ce + 29) (sl + 222)) : WS k 1822 [(0, .ref q1), (1, .ref (A 0)), (2, .ref (A 179)), (3, .ref (A 517)), (4, .int (Int32.ofInt i))] [] (Wd A dT s) ce sl := by
  have F : Fm [73] [1460] s s := fm_rf _ _ s
  have b1 := bi_12 I
  have b2 := bi_89 I
  refine z_aload_n X (x := A 0) rfl (List.Mem.tail _ (List.Mem.head _)) (z_aload_n X (x := q1) rfl (List.Mem.head _) (z_load X (x := i) rfl (List.Mem.tail _ (List.Mem.tail _ (List.Mem.tail _ (List.Mem.tail _ (List.Mem.head _))))) (z_const X rfl (z_add X rfl (z_sld X S hL rfl (show 0 ≤ (i + 1) ∧ (i + 1) < (L : Int) by first | exact sx_in hi (by decide) | omega) ?_)))))
  have sr3 : rng (sc xs (i + 1)) := sc_rng
  refine z_aload_n X (x := A 517) rfl (List.Mem.tail _ (List.Mem.tail _ (List.Mem.tail _ (List.Mem.head _)))) (z_callL X (rm := rmN 349) (As := [.ref (A 0), .int (Int32.ofInt (sc xs (i + 1))), .ref (A 517)]) (st := []) rfl (by decide) rfl (by rw [E.1, E.2.1, E.2.2.1]; exact lw_quiet G I (by omega)) ⟨by rw [E.2.2.2]; exact (show 9 + 1 ≤ 2048 by decide), by rw [E.2.2.2]; exact (show 8 + (4 + 11) + 166 ≤ 84000 by decide), by rw [E.2.2.2]; exact (show ce + 1 ≤ 601024 by first | exact rmo_1 hce (by decide) | exact rmo_2 hce (by decide) | omega), by rw [E.2.2.2]; exact (show sl + 6 ≤ 7293034 by first | exact rmo_1 hsl (by decide) | exact rmo_2 hsl (by decide) | omega)⟩ (Nat.le_of_ble_eq_true rfl) (fun vv A s4 hA2 hq => ?_) (fun ee A s4 hA2 hq => ?_))
  rotate_left
  · obtain ⟨Is4, Fs4, e5, hv, hrs4, hps4⟩ := hq; cases hv
  obtain ⟨Is4, Fs4, e5, hv, hrs4, hps4⟩ := hq
  cases hv
  rw [← hA2 0 (by decide)]
  rw [← hA2 179 (by decide)]
  rw [← hA2 517 (by decide)]
  have Gs4 := fm_tq F Fs4 rfl rfl
  have JRLx_s4 : RLx s4 := RLx_fm Fs4 (by decide) jR
  have JSEQ_s4 : SEQ s4 := SEQ_fm Fs4 (by decide) jSEQ
  have ws4_12 : iI s4 12 = iI s 12 := fm_iq Fs4 rfl
  have ws4_89 : iI s4 89 = iI s 89 := fm_iq Fs4 rfl
  show WS k 1833 [(0, .ref q1), (1, .ref (A 0)), (2, .ref (A 179)), (3, .ref (A 517)), (4, .int (Int32.ofInt i))] [.int (Int32.ofInt e5)] (Wd A dT s4) (ce + 1) (sl + 6)
  refine z_store X (lv' := [(5, .int (Int32.ofInt e5)), (0, .ref q1), (1, .ref (A 0)), (2, .ref (A 179)), (3, .ref (A 517)), (4, .int (Int32.ofInt i))]) rfl (by decide) (fun _ h => h) (z_aload_n X (x := A 179) rfl (List.Mem.tail _ (List.Mem.tail _ (List.Mem.tail _ (List.Mem.head _)))) (z_aload_n X (x := q1) rfl (List.Mem.tail _ (List.Mem.head _)) (z_load X (x := i) rfl (List.Mem.tail _ (List.Mem.tail _ (List.Mem.tail _ (List.Mem.tail _ (List.Mem.tail _ (List.Mem.head _)))))) (z_const X rfl (z_add X rfl (z_sld X S hL rfl (show 0 ≤ (i + 1) ∧ (i + 1) < (L : Int) by first | exact sx_in hi (by decide) | omega) ?_))))))
  have sr6 : rng (sc xs (i + 1)) := sc_rng
  refine z_callV X 179 (rm := rmN 292) (As := [.int (Int32.ofInt (sc xs (i + 1)))]) (st := []) rfl rfl (by decide) rfl (by rw [E.1, E.2.1, E.2.2.1]; exact k_quiet G Is4 (by first | exact ⟨sr6.1, sr6.2⟩ | omega)) ⟨by rw [E.2.2.2]; exact (show 7 + 1 ≤ 2048 from oq_4e6106eb), by rw [E.2.2.2]; exact (show 8 + (4 + 11) + 123 ≤ 84000 from oq_24286ecc), by rw [E.2.2.2]; exact (show (ce + 1) + 0 ≤ 601024 by omega), by rw [E.2.2.2]; exact (show (sl + 6) + 0 ≤ 7293034 by omega)⟩ (Nat.le_of_ble_eq_true rfl) (fun vv s7 hq => ?_) (fun ee s7 hq => ?_)
  rotate_left
  · obtain ⟨Is7, Fs7, e8, hv, hrs7, hps7⟩ := hq; cases hv
  obtain ⟨Is7, Fs7, e8, hv, hrs7, hps7⟩ := hq
  cases hv
  have Gs7 := fm_tq Gs4 Fs7 rfl rfl
  have JRLx_s7 : RLx s7 := RLx_fm Fs7 (by decide) JRLx_s4
  have JSEQ_s7 : SEQ s7 := SEQ_fm Fs7 (by decide) JSEQ_s4
  have ws7_12 : iI s7 12 = iI s4 12 := fm_iq Fs7 rfl
  have ws7_89 : iI s7 89 = iI s4 89 := fm_iq Fs7 rfl
  have wos7 : iO s7 = iO s4 := fm_o Fs7 (by decide)
  show WS k 1845 [(5, .int (Int32.ofInt e5)), (0, .ref q1), (1, .ref (A 0)), (2, .ref (A 179)), (3, .ref (A 517)), (4, .int (Int32.ofInt i))] [.int (Int32.ofInt e8)] (Wd A dT s7) (ce + 1) (sl + 6)
  refine z_store X (lv' := [(6, .int (Int32.ofInt e8)), (5, .int (Int32.ofInt e5)), (0, .ref q1), (1, .ref (A 0)), (2, .ref (A 179)), (3, .ref (A 517)), (4, .int (Int32.ofInt i))]) rfl (by decide) (fun _ h => h) (z_goto X (t := 1901) rfl rfl (w_widen (ce' := ce + 29) (sl' := sl + 222) (by first | exact Nat.le_add_right _ _ | exact Nat.add_le_add_left (by decide) _ | omega) (by first | exact Nat.le_add_right _ _ | exact Nat.add_le_add_left (by decide) _ | omega) ?_))
  exact WS_lv (lv := [(0, .ref q1), (1, .ref (A 0)), (2, .ref (A 179)), (3, .ref (A 517)), (4, .int (Int32.ofInt i))]) (List.forall_mem_cons.mpr ⟨(List.Mem.tail _ (List.Mem.tail _ (List.Mem.head _))), (List.forall_mem_cons.mpr ⟨(List.Mem.tail _ (List.Mem.tail _ (List.Mem.tail _ (List.Mem.head _)))), (List.forall_mem_cons.mpr ⟨(List.Mem.tail _ (List.Mem.tail _ (List.Mem.tail _ (List.Mem.tail _ (List.Mem.head _))))), (List.forall_mem_cons.mpr ⟨(List.Mem.tail _ (List.Mem.tail _ (List.Mem.tail _ (List.Mem.tail _ (List.Mem.tail _ (List.Mem.head _)))))), (List.forall_mem_cons.mpr ⟨(List.Mem.tail _ (List.Mem.tail _ (List.Mem.tail _ (List.Mem.tail _ (List.Mem.tail _ (List.Mem.tail _ (List.Mem.head _))))))), (fun q h => absurd h List.not_mem_nil)⟩)⟩)⟩)⟩)⟩) (hk A _ Is7 JRLx_s7 JSEQ_s7 (by first | exact oq_f34933ba ws7_89 ws4_89 p1 b2.1 | omega) (by first | exact oq_d7ce4408 ws7_12 ws4_12 p2 | omega))
theorem lc_41 (G : GX l s0 D tys a0 dT) (GR : RS0 s0) (SF : SF0 s0) (GT : TXs0 s0) {k : kx_T} (X : AX k 350 dT) (E : kL k = l ∧ kS0 k = s0 ∧ kD k = D ∧ kR k = room_1) {q1 L : Nat} {xs : Nat → Int32} (S : SX k q1 L xs) (hL : L ≤ 3072) (I : Bd s) (jR : RLx s) (jSEQ : SEQ s) (p1 : iI s 89 = 1) (p2 : iI s 12 ≤ 8) {i : Int} (hi : 0 ≤ i ∧ i + 6 ≤ (L : Int)) {ce sl : Nat} (hce : ce + 29 ≤ 601024) (hsl : sl + 222 ≤ 7293034) (hk : ∀ (A : Nat → Nat) (t : PS), Bd t → RLx t → SEQ t → iI t 89 = 1 → iI t 12 ≤ 8 → WS k 1901 [(0, .ref q1), (1, .ref (A 0)), (2, .ref (A 179)), (3, .ref (A 517)), (4, .int (Int32.ofInt i))] [] (Wd A dT t) (ce + 29) (sl + 222)) : WS k 1850 [(0, .ref q1), (1, .ref (A 0)), (2, .ref (A 179)), (3, .ref (A 517)), (4, .int (Int32.ofInt i))] [] (Wd A dT s) ce sl := by
  have F : Fm [20, 73, 98] [25, 241, 242, 243, 244] s s := fm_rf _ _ s
  have b1 := bi_12 I
  have b2 := bi_89 I
  refine z_aload_n X (x := A 0) rfl (List.Mem.tail _ (List.Mem.head _)) (z_callV X 0 (rm := rmN 176) (As := []) (st := []) rfl rfl (by decide) rfl (by rw [E.1, E.2.1, E.2.2.1]; exact cs_mark G I ) ⟨by rw [E.2.2.2]; exact (show 7 + 1 ≤ 2048 from oq_4e6106eb), by rw [E.2.2.2]; exact (show 8 + (1 + 11) + 120 ≤ 84000 from oq_23aa4b49), by rw [E.2.2.2]; exact (show ce + 0 ≤ 601024 by omega), by rw [E.2.2.2]; exact (show sl + 0 ≤ 7293034 by omega)⟩ (Nat.le_of_ble_eq_true rfl) (fun vv s3 hq => ?_) (fun ee s3 hq => ?_))
  rotate_left
  · obtain ⟨Is3, Fs3, e4, hv, hrs3, hps3⟩ := hq; cases hv
  obtain ⟨Is3, Fs3, e4, hv, hrs3, hps3⟩ := hq
  cases hv
  have Gs3 := fm_tq F Fs3 rfl rfl
  have JRLx_s3 : RLx s3 := RLx_fm Fs3 (by decide) jR
  have JSEQ_s3 : SEQ s3 := SEQ_fm Fs3 (by decide) jSEQ
  have ws3_12 : iI s3 12 = iI s 12 := fm_iq Fs3 rfl
  have ws3_89 : iI s3 89 = iI s 89 := fm_iq Fs3 rfl
  have wos3 : iO s3 = iO s := fm_o Fs3 (by decide)
  show WS k 1854 [(0, .ref q1), (1, .ref (A 0)), (2, .ref (A 179)), (3, .ref (A 517)), (4, .int (Int32.ofInt i))] [.int (Int32.ofInt e4)] (Wd A dT s3) ce sl
  refine w_pop X.1 (ax_d X (show cdA 350 1854 = some (.pop, 1, 0, 0, 0) from rfl)) rfl (z_aload_n X (x := A 179) rfl (List.Mem.tail _ (List.Mem.tail _ (List.Mem.head _))) (z_callV X 179 (rm := rmN 293) (As := []) (st := []) rfl rfl (by decide) rfl (by rw [E.1, E.2.1, E.2.2.1]; exact k_mark G Is3 ) ⟨by rw [E.2.2.2]; exact (show 6 + 1 ≤ 2048 from oq_4d34cb53), by rw [E.2.2.2]; exact (show 8 + (2 + 11) + 100 ≤ 84000 from oq_8731b8c0), by rw [E.2.2.2]; exact (show ce + 0 ≤ 601024 by omega), by rw [E.2.2.2]; exact (show sl + 0 ≤ 7293034 by omega)⟩ (Nat.le_of_ble_eq_true rfl) (fun vv s5 hq => ?_) (fun ee s5 hq => ?_)))
  rotate_left
  · obtain ⟨Is5, Fs5, e6, hv, hrs5, hps5⟩ := hq; cases hv
  obtain ⟨Is5, Fs5, e6, hv, hrs5, hps5⟩ := hq
  cases hv
  have Gs5 := fm_tq Gs3 Fs5 rfl rfl
  have JRLx_s5 : RLx s5 := RLx_fm Fs5 (by decide) JRLx_s3
  have JSEQ_s5 : SEQ s5 := SEQ_fm Fs5 (by decide) JSEQ_s3
  have ws5_12 : iI s5 12 = iI s3 12 := fm_iq Fs5 rfl
  have ws5_89 : iI s5 89 = iI s3 89 := fm_iq Fs5 rfl
  have wos5 : iO s5 = iO s3 := fm_o Fs5 (by decide)
  show WS k 1859 [(0, .ref q1), (1, .ref (A 0)), (2, .ref (A 179)), (3, .ref (A 517)), (4, .int (Int32.ofInt i))] [.int (Int32.ofInt e6)] (Wd A dT s5) ce sl
  refine w_pop X.1 (ax_d X (show cdA 350 1859 = some (.pop, 1, 0, 0, 0) from rfl)) rfl (z_goto X (t := 1901) rfl rfl (w_widen (ce' := ce + 29) (sl' := sl + 222) (by first | exact Nat.le_add_right _ _ | exact Nat.add_le_add_left (by decide) _ | omega) (by first | exact Nat.le_add_right _ _ | exact Nat.add_le_add_left (by decide) _ | omega) ?_))
  exact WS_lv (lv := [(0, .ref q1), (1, .ref (A 0)), (2, .ref (A 179)), (3, .ref (A 517)), (4, .int (Int32.ofInt i))]) (List.forall_mem_cons.mpr ⟨(List.Mem.head _), (List.forall_mem_cons.mpr ⟨(List.Mem.tail _ (List.Mem.head _)), (List.forall_mem_cons.mpr ⟨(List.Mem.tail _ (List.Mem.tail _ (List.Mem.head _))), (List.forall_mem_cons.mpr ⟨(List.Mem.tail _ (List.Mem.tail _ (List.Mem.tail _ (List.Mem.head _)))), (List.forall_mem_cons.mpr ⟨(List.Mem.tail _ (List.Mem.tail _ (List.Mem.tail _ (List.Mem.tail _ (List.Mem.head _))))), (fun q h => absurd h List.not_mem_nil)⟩)⟩)⟩)⟩)⟩) (hk A _ Is5 JRLx_s5 JSEQ_s5 (by first | exact oq_f34933ba ws5_89 ws3_89 p1 b2.1 | omega) (by first | exact oq_d7ce4408 ws5_12 ws3_12 p2 | omega))
theorem lc_42 (G : GX l s0 D tys a0 dT) (GR : RS0 s0) (SF : SF0 s0) (GT : TXs0 s0) {k : kx_T} (X : AX k 350 dT) (E : kL k = l ∧ kS0 k = s0 ∧ kD k = D ∧ kR k = room_1) {q1 L : Nat} {xs : Nat → Int32} (S : SX k q1 L xs) (hL : L ≤ 3072) (I : Bd s) (jR : RLx s) (jSEQ : SEQ s) (p1 : iI s 89 = 1) (p2 : iI s 12 ≤ 8) {i : Int} (hi : 0 ≤ i ∧ i + 6 ≤ (L : Int)) {ce sl : Nat} (hce : ce + 29 ≤ 601024) (hsl : sl + 222 ≤ 7293034) (hk : ∀ (A : Nat → Nat) (t : PS), Bd t → RLx t → SEQ t → iI t 89 = 1 → iI t 12 ≤ 8 → WS k 1901 [(0, .ref q1), (1, .ref (A 0)), (2, .ref (A 179)), (3, .ref (A 517)), (4, .int (Int32.ofInt i))] [] (Wd A dT t) (ce + 29) (sl + 222)) : WS k 1863 [(0, .ref q1), (1, .ref (A 0)), (2, .ref (A 179)), (3, .ref (A 517)), (4, .int (Int32.ofInt i))] [] (Wd A dT s) ce sl := by
  have F : Fm [20, 73, 98] [21, 1022, 1023, 228] s s := fm_rf _ _ s
  have b1 := bi_12 I
  have b2 := bi_89 I
  refine z_aload_n X (x := A 0) rfl (List.Mem.tail _ (List.Mem.head _)) (z_callV X 0 (rm := rmN 177) (As := []) (st := []) rfl rfl (by decide) rfl (by rw [E.1, E.2.1, E.2.2.1]; exact cs_back G I ) ⟨by rw [E.2.2.2]; exact (show 8 + 1 ≤ 2048 from oq_5bf2829b), by rw [E.2.2.2]; exact (show 8 + (1 + 11) + 147 ≤ 84000 from oq_6fd3db4b), by rw [E.2.2.2]; exact (show ce + 0 ≤ 601024 by omega), by rw [E.2.2.2]; exact (show sl + 0 ≤ 7293034 by omega)⟩ (Nat.le_of_ble_eq_true rfl) (fun vv s3 hq => ?_) (fun ee s3 hq => ?_))
  rotate_left
  · obtain ⟨Is3, Fs3, e4, hv, hrs3, hps3⟩ := hq; cases hv
  obtain ⟨Is3, Fs3, e4, hv, hrs3, hps3⟩ := hq
  cases hv
  have Gs3 := fm_tq F Fs3 rfl rfl
  have JRLx_s3 : RLx s3 := RLx_fm Fs3 (by decide) jR
  have JSEQ_s3 : SEQ s3 := SEQ_fm Fs3 (by decide) jSEQ
  have ws3_12 : iI s3 12 = iI s 12 := fm_iq Fs3 rfl
  have ws3_89 : iI s3 89 = iI s 89 := fm_iq Fs3 rfl
  have wos3 : iO s3 = iO s := fm_o Fs3 (by decide)
  show WS k 1867 [(0, .ref q1), (1, .ref (A 0)), (2, .ref (A 179)), (3, .ref (A 517)), (4, .int (Int32.ofInt i))] [.int (Int32.ofInt e4)] (Wd A dT s3) ce sl
  refine w_pop X.1 (ax_d X (show cdA 350 1867 = some (.pop, 1, 0, 0, 0) from rfl)) rfl (z_aload_n X (x := A 179) rfl (List.Mem.tail _ (List.Mem.tail _ (List.Mem.head _))) (z_callV X 179 (rm := rmN 294) (As := []) (st := []) rfl rfl (by decide) rfl (by rw [E.1, E.2.1, E.2.2.1]; exact k_back G Is3 ) ⟨by rw [E.2.2.2]; exact (show 6 + 1 ≤ 2048 from oq_4d34cb53), by rw [E.2.2.2]; exact (show 8 + (2 + 11) + 100 ≤ 84000 from oq_8731b8c0), by rw [E.2.2.2]; exact (show ce + 0 ≤ 601024 by omega), by rw [E.2.2.2]; exact (show sl + 0 ≤ 7293034 by omega)⟩ (Nat.le_of_ble_eq_true rfl) (fun vv s5 hq => ?_) (fun ee s5 hq => ?_)))
  rotate_left
  · obtain ⟨Is5, Fs5, e6, hv, hrs5, hps5⟩ := hq; cases hv
  obtain ⟨Is5, Fs5, e6, hv, hrs5, hps5⟩ := hq
  cases hv
  have Gs5 := fm_tq Gs3 Fs5 rfl rfl
  have JRLx_s5 : RLx s5 := RLx_fm Fs5 (by decide) JRLx_s3
  have JSEQ_s5 : SEQ s5 := SEQ_fm Fs5 (by decide) JSEQ_s3
  have ws5_12 : iI s5 12 = iI s3 12 := fm_iq Fs5 rfl
  have ws5_89 : iI s5 89 = iI s3 89 := fm_iq Fs5 rfl
  have wos5 : iO s5 = iO s3 := fm_o Fs5 (by decide)
  show WS k 1872 [(0, .ref q1), (1, .ref (A 0)), (2, .ref (A 179)), (3, .ref (A 517)), (4, .int (Int32.ofInt i))] [.int (Int32.ofInt e6)] (Wd A dT s5) ce sl
  refine w_pop X.1 (ax_d X (show cdA 350 1872 = some (.pop, 1, 0, 0, 0) from rfl)) rfl (z_goto X (t := 1901) rfl rfl (w_widen (ce' := ce + 29) (sl' := sl + 222) (by first | exact Nat.le_add_right _ _ | exact Nat.add_le_add_left (by decide) _ | omega) (by first | exact Nat.le_add_right _ _ | exact Nat.add_le_add_left (by decide) _ | omega) ?_))
  exact WS_lv (lv := [(0, .ref q1), (1, .ref (A 0)), (2, .ref (A 179)), (3, .ref (A 517)), (4, .int (Int32.ofInt i))]) (List.forall_mem_cons.mpr ⟨(List.Mem.head _), (List.forall_mem_cons.mpr ⟨(List.Mem.tail _ (List.Mem.head _)), (List.forall_mem_cons.mpr ⟨(List.Mem.tail _ (List.Mem.tail _ (List.Mem.head _))), (List.forall_mem_cons.mpr ⟨(List.Mem.tail _ (List.Mem.tail _ (List.Mem.tail _ (List.Mem.head _)))), (List.forall_mem_cons.mpr ⟨(List.Mem.tail _ (List.Mem.tail _ (List.Mem.tail _ (List.Mem.tail _ (List.Mem.head _))))), (fun q h => absurd h List.not_mem_nil)⟩)⟩)⟩)⟩)⟩) (hk A _ Is5 JRLx_s5 JSEQ_s5 (by first | exact oq_f34933ba ws5_89 ws3_89 p1 b2.1 | omega) (by first | exact oq_d7ce4408 ws5_12 ws3_12 p2 | omega))
theorem lc_43 (G : GX l s0 D tys a0 dT) (GR : RS0 s0) (SF : SF0 s0) (GT : TXs0 s0) {k : kx_T} (X : AX k 350 dT) (E : kL k = l ∧ kS0 k = s0 ∧ kD k = D ∧ kR k = room_1) {q1 L : Nat} {xs : Nat → Int32} (S : SX k q1 L xs) (hL : L ≤ 3072) (I : Bd s) (jR : RLx s) (jSEQ : SEQ s) (p1 : iI s 89 = 1) (p2 : iI s 12 ≤ 8) {i : Int} (hi : 0 ≤ i ∧ i + 6 ≤ (L : Int)) {ce sl : Nat} (hce : ce + 29 ≤ 601024) (hsl : sl + 222 ≤ 7293034) (hk : ∀ (A : Nat → Nat) (t : PS), Bd t → RLx t → SEQ t → iI t 89 = 1 → iI t 12 ≤ 8 → WS k 1901 [(0, .ref q1), (1, .ref (A 0)), (2, .ref (A 179)), (3, .ref (A 517)), (4, .int (Int32.ofInt i))] [] (Wd A dT t) (ce + 29) (sl + 222)) : WS k 1876 [(0, .ref q1), (1, .ref (A 0)), (2, .ref (A 179)), (3, .ref (A 517)), (4, .int (Int32.ofInt i))] [] (Wd A dT s) ce sl := by
  have F : Fm [73] [] s s := fm_rf _ _ s
  have b1 := bi_12 I
  have b2 := bi_89 I
  refine z_aload_n X (x := A 0) rfl (List.Mem.tail _ (List.Mem.head _)) (z_aload_n X (x := q1) rfl (List.Mem.head _) (z_load X (x := i) rfl (List.Mem.tail _ (List.Mem.tail _ (List.Mem.tail _ (List.Mem.tail _ (List.Mem.head _))))) (z_const X rfl (z_add X rfl (z_sld X S hL rfl (show 0 ≤ (i + 1) ∧ (i + 1) < (L : Int) by first | exact sx_in hi (by decide) | omega) ?_)))))
  have sr3 : rng (sc xs (i + 1)) := sc_rng
  refine z_callV X 0 (rm := rmN 178) (As := [.int (Int32.ofInt (sc xs (i + 1)))]) (st := []) rfl rfl (by decide) rfl (by rw [E.1, E.2.1, E.2.2.1]; exact cs_count G I (by first | exact ⟨sr3.1, sr3.2⟩ | omega)) ⟨by rw [E.2.2.2]; exact (show 8 + 1 ≤ 2048 from oq_5bf2829b), by rw [E.2.2.2]; exact (show 8 + (2 + 11) + 143 ≤ 84000 from oq_ca72eefc), by rw [E.2.2.2]; exact (show ce + 0 ≤ 601024 by omega), by rw [E.2.2.2]; exact (show sl + 0 ≤ 7293034 by omega)⟩ (Nat.le_of_ble_eq_true rfl) (fun vv s4 hq => ?_) (fun ee s4 hq => ?_)
  rotate_left
  · obtain ⟨Is4, Fs4, e5, hv, hrs4, hps4⟩ := hq; cases hv
  obtain ⟨Is4, Fs4, e5, hv, hrs4, hps4⟩ := hq
  cases hv
  have Gs4 := fm_tq F Fs4 rfl rfl
  have JRLx_s4 : RLx s4 := RLx_fm Fs4 (by decide) jR
  have JSEQ_s4 : SEQ s4 := SEQ_fm Fs4 (by decide) jSEQ
  have ws4_12 : iI s4 12 = iI s 12 := fm_iq Fs4 rfl
  have ws4_89 : iI s4 89 = iI s 89 := fm_iq Fs4 rfl
  have wos4 : iO s4 = iO s := fm_o Fs4 (by decide)
  show WS k 1886 [(0, .ref q1), (1, .ref (A 0)), (2, .ref (A 179)), (3, .ref (A 517)), (4, .int (Int32.ofInt i))] [.int (Int32.ofInt e5)] (Wd A dT s4) ce sl
  refine w_pop X.1 (ax_d X (show cdA 350 1886 = some (.pop, 1, 0, 0, 0) from rfl)) rfl (z_aload_n X (x := A 179) rfl (List.Mem.tail _ (List.Mem.tail _ (List.Mem.head _))) (z_aload_n X (x := q1) rfl (List.Mem.head _) (z_load X (x := i) rfl (List.Mem.tail _ (List.Mem.tail _ (List.Mem.tail _ (List.Mem.tail _ (List.Mem.head _))))) (z_const X rfl (z_add X rfl (z_sld X S hL rfl (show 0 ≤ (i + 1) ∧ (i + 1) < (L : Int) by first | exact sx_in hi (by decide) | omega) ?_))))))
  have sr6 : rng (sc xs (i + 1)) := sc_rng
  refine z_callV X 179 (rm := rmN 295) (As := [.int (Int32.ofInt (sc xs (i + 1)))]) (st := []) rfl rfl (by decide) rfl (by rw [E.1, E.2.1, E.2.2.1]; exact k_count G Is4 (by first | exact ⟨sr6.1, sr6.2⟩ | omega)) ⟨by rw [E.2.2.2]; exact (show 7 + 1 ≤ 2048 from oq_4e6106eb), by rw [E.2.2.2]; exact (show 8 + (6 + 11) + 122 ≤ 84000 from oq_380e4f97), by rw [E.2.2.2]; exact (show ce + 0 ≤ 601024 by omega), by rw [E.2.2.2]; exact (show sl + 0 ≤ 7293034 by omega)⟩ (Nat.le_of_ble_eq_true rfl) (fun vv s7 hq => ?_) (fun ee s7 hq => ?_)
  rotate_left
  · obtain ⟨Is7, Fs7, e8, hv, hrs7, hps7⟩ := hq; cases hv
  obtain ⟨Is7, Fs7, e8, hv, hrs7, hps7⟩ := hq
  cases hv
  have Gs7 := fm_tq Gs4 Fs7 rfl rfl
  have JRLx_s7 : RLx s7 := RLx_fm Fs7 (by decide) JRLx_s4
  have JSEQ_s7 : SEQ s7 := SEQ_fm Fs7 (by decide) JSEQ_s4
  have ws7_12 : iI s7 12 = iI s4 12 := fm_iq Fs7 rfl
  have ws7_89 : iI s7 89 = iI s4 89 := fm_iq Fs7 rfl
  have wos7 : iO s7 = iO s4 := fm_o Fs7 (by decide)
  show WS k 1897 [(0, .ref q1), (1, .ref (A 0)), (2, .ref (A 179)), (3, .ref (A 517)), (4, .int (Int32.ofInt i))] [.int (Int32.ofInt e8)] (Wd A dT s7) ce sl
  refine w_pop X.1 (ax_d X (show cdA 350 1897 = some (.pop, 1, 0, 0, 0) from rfl)) rfl (z_goto X (t := 1901) rfl rfl (w_widen (ce' := ce + 29) (sl' := sl + 222) (by first | exact Nat.le_add_right _ _ | exact Nat.add_le_add_left (by decide) _ | omega) (by first | exact Nat.le_add_right _ _ | exact Nat.add_le_add_left (by decide) _ | omega) ?_))
  exact WS_lv (lv := [(0, .ref q1), (1, .ref (A 0)), (2, .ref (A 179)), (3, .ref (A 517)), (4, .int (Int32.ofInt i))]) (List.forall_mem_cons.mpr ⟨(List.Mem.head _), (List.forall_mem_cons.mpr ⟨(List.Mem.tail _ (List.Mem.head _)), (List.forall_mem_cons.mpr ⟨(List.Mem.tail _ (List.Mem.tail _ (List.Mem.head _))), (List.forall_mem_cons.mpr ⟨(List.Mem.tail _ (List.Mem.tail _ (List.Mem.tail _ (List.Mem.head _)))), (List.forall_mem_cons.mpr ⟨(List.Mem.tail _ (List.Mem.tail _ (List.Mem.tail _ (List.Mem.tail _ (List.Mem.head _))))), (fun q h => absurd h List.not_mem_nil)⟩)⟩)⟩)⟩)⟩) (hk A _ Is7 JRLx_s7 JSEQ_s7 (by first | exact oq_f34933ba ws7_89 ws4_89 p1 b2.1 | omega) (by first | exact oq_d7ce4408 ws7_12 ws4_12 p2 | omega))
theorem law_head (G : GX l s0 D tys a0 dT) (GR : RS0 s0) (SF : SF0 s0) (GT : TXs0 s0) {k : kx_T} (X : AX k 350 dT) (E : kL k = l ∧ kS0 k = s0 ∧ kD k = D ∧ kR k = room_1) {q1 L : Nat} {xs : Nat → Int32} (S : SX k q1 L xs) (hL : L ≤ 3072) (hRt : (kMe k).sig.returnType = some .boolean) (q : kx_end k K0 601024 7293034) : ∀ (n m : Nat) (A : Nat → Nat) (s : PS), Bd s → RLx s → SEQ s → iI s 89 = 1 → iI s 12 ≤ 8 → (L : Int) ≤ 6 * ((m + n : Nat) : Int) + 5 → m ≤ 512 → WS k 23 [(0, .ref q1), (1, .ref (A 0)), (2, .ref (A 179)), (3, .ref (A 517)), (4, .int (Int32.ofInt (6 * (m : Int))))] [] (Wd A dT s) (518 + 29 * m) (23524 + 222 * m) := by
  intro n
  induction n with
  | zero =>
    intro m A s I jR jSEQ p1 p2  hn hm
    refine z_load X (x := (6 * (m : Int))) rfl (List.Mem.tail _ (List.Mem.tail _ (List.Mem.tail _ (List.Mem.tail _ (List.Mem.head _))))) (z_aload_n X (x := q1) rfl (List.Mem.head _) (z_slen X S hL rfl (z_bipush X rfl (z_sub X rfl (z_icmp_gt X (t := 1907) rfl rfl ⟨by omega, by omega⟩ ⟨by omega, by omega⟩ (fun g1 => ?_) (fun g1 => ?_))))))
    ·
      refine z_const X rfl ?_
      exact w_iret X.1 q hRt (nar_ret (Or.inr rfl)) (ax_d X (show cdA 350 1908 = some (.ireturn, 1, 0, 0, 0) from rfl)) (by omega) (by omega) rfl
    ·
      exfalso
      omega
  | succ n ih =>
    intro m A s I jR jSEQ p1 p2  hn hm
    refine z_load X (x := (6 * (m : Int))) rfl (List.Mem.tail _ (List.Mem.tail _ (List.Mem.tail _ (List.Mem.tail _ (List.Mem.head _))))) (z_aload_n X (x := q1) rfl (List.Mem.head _) (z_slen X S hL rfl (z_bipush X rfl (z_sub X rfl (z_icmp_gt X (t := 1907) rfl rfl ⟨by omega, by omega⟩ ⟨by omega, by omega⟩ (fun g1 => ?_) (fun g1 => ?_))))))
    ·
      refine z_const X rfl ?_
      exact w_iret X.1 q hRt (nar_ret (Or.inr rfl)) (ax_d X (show cdA 350 1908 = some (.ireturn, 1, 0, 0, 0) from rfl)) (by omega) (by omega) rfl
    ·
      have hk : ∀ (A : Nat → Nat) (t : PS), Bd t → RLx t → SEQ t → iI t 89 = 1 → iI t 12 ≤ 8 → WS k 1901 [(0, .ref q1), (1, .ref (A 0)), (2, .ref (A 179)), (3, .ref (A 517)), (4, .int (Int32.ofInt (6 * (m : Int))))] [] (Wd A dT t) (518 + 29 * m + 29) (23524 + 222 * m + 222) := by
        intro A t I jR jSEQ p1 p2 
        refine z_inc X (x := (6 * (m : Int))) (lv' := [(4, .int (Int32.ofInt (6 * (m : Int) + 6))), (0, .ref q1), (1, .ref (A 0)), (2, .ref (A 179)), (3, .ref (A 517))]) rfl (by decide) (List.Mem.tail _ (List.Mem.tail _ (List.Mem.tail _ (List.Mem.tail _ (List.Mem.head _))))) (fun _ h => h) (z_goto X (t := 23) rfl rfl ?_)
        have e6 : (6 * (m : Int) + 6) = 6 * ((m + 1 : Nat) : Int) := by omega
        rw [e6]
        refine WS_pq [1, 2, 3, 4, 0] (lv' := [(0, .ref q1), (1, .ref (A 0)), (2, .ref (A 179)), (3, .ref (A 517)), (4, .int (Int32.ofInt (6 * ((m + 1 : Nat) : Int))))]) rfl (w_widen (ce' := 518 + 29 * (m + 1)) (sl' := 23524 + 222 * (m + 1)) (by omega) (by omega) ?_)
        exact ih (m + 1) A t I jR jSEQ p1 p2  (by omega) (by omega)
      refine z_aload_n X (x := q1) rfl (List.Mem.head _) (z_load X (x := (6 * (m : Int))) rfl (List.Mem.tail _ (List.Mem.tail _ (List.Mem.tail _ (List.Mem.tail _ (List.Mem.head _))))) (z_sld X S hL rfl (show 0 ≤ (6 * (m : Int)) ∧ (6 * (m : Int)) < (L : Int) by first | exact sx_in hi (by decide) | omega) ?_))
      have sr2 : rng (sc xs (6 * (m : Int))) := sc_rng
      refine z_bipush X rfl (z_andm X rfl (by decide) (by decide) (fun y3 hy3 gy3 => ?_))
      rcases (show y3 = 0 ∨ y3 = 1 ∨ y3 = 2 ∨ y3 = 3 ∨ y3 = 4 ∨ y3 = 5 ∨ y3 = 6 ∨ y3 = 7 ∨ y3 = 8 ∨ y3 = 9 ∨ y3 = 10 ∨ y3 = 11 ∨ y3 = 12 ∨ y3 = 13 ∨ y3 = 14 ∨ y3 = 15 ∨ y3 = 16 ∨ y3 = 17 ∨ y3 = 18 ∨ y3 = 19 ∨ y3 = 20 ∨ y3 = 21 ∨ y3 = 22 ∨ y3 = 23 ∨ y3 = 24 ∨ y3 = 25 ∨ y3 = 26 ∨ y3 = 27 ∨ y3 = 28 ∨ y3 = 29 ∨ y3 = 30 ∨ y3 = 31 ∨ y3 = 32 ∨ y3 = 33 ∨ y3 = 34 ∨ y3 = 35 ∨ y3 = 36 ∨ y3 = 37 ∨ y3 = 38 ∨ y3 = 39 ∨ y3 = 40 ∨ y3 = 41 ∨ y3 = 42 ∨ y3 = 43 ∨ (y3 < 0 ∨ 43 < y3) by omega) with gs | gs | gs | gs | gs | gs | gs | gs | gs | gs | gs | gs | gs | gs | gs | gs | gs | gs | gs | gs | gs | gs | gs | gs | gs | gs | gs | gs | gs | gs | gs | gs | gs | gs | gs | gs | gs | gs | gs | gs | gs | gs | gs | gs | gs
      ·
        rw [gs]
        refine w_tabIn X.1 (dflt := 1861) (lo := 0) (hi := 43) (offs := #[192, 265, 293, 321, 334, 374, 435, 484, 524, 564, 616, 656, 708, 748, 776, 816, 844, 872, 900, 913, 926, 954, 982, 1010, 1050, 1063, 1091, 1131, 1159, 1199, 1239, 1279, 1331, 1371, 1399, 1490, 1554, 1634, 1662, 1742, 1782, 1810, 1823, 1836]) (len := 192) (off := 192) (t := 232) (ax_d X (show cdA 350 40 = some (.tableswitch 1861 0 43 #[192, 265, 293, 321, 334, 374, 435, 484, 524, 564, 616, 656, 708, 748, 776, 816, 844, 872, 900, 913, 926, 954, 982, 1010, 1050, 1063, 1091, 1131, 1159, 1199, 1239, 1279, 1331, 1371, 1399, 1490, 1554, 1634, 1662, 1742, 1782, 1810, 1823, 1836], 192, 0, 0, 0) from rfl)) (by decide) (by decide) (by decide) (by decide) ?_
        exact lc_0 G GR SF GT X E S hL I jR jSEQ p1 p2  (by omega) (by omega) (by omega) hk
      ·
        rw [gs]
        refine w_tabIn X.1 (dflt := 1861) (lo := 0) (hi := 43) (offs := #[192, 265, 293, 321, 334, 374, 435, 484, 524, 564, 616, 656, 708, 748, 776, 816, 844, 872, 900, 913, 926, 954, 982, 1010, 1050, 1063, 1091, 1131, 1159, 1199, 1239, 1279, 1331, 1371, 1399, 1490, 1554, 1634, 1662, 1742, 1782, 1810, 1823, 1836]) (len := 192) (off := 265) (t := 305) (ax_d X (show cdA 350 40 = some (.tableswitch 1861 0 43 #[192, 265, 293, 321, 334, 374, 435, 484, 524, 564, 616, 656, 708, 748, 776, 816, 844, 872, 900, 913, 926, 954, 982, 1010, 1050, 1063, 1091, 1131, 1159, 1199, 1239, 1279, 1331, 1371, 1399, 1490, 1554, 1634, 1662, 1742, 1782, 1810, 1823, 1836], 192, 0, 0, 0) from rfl)) (by decide) (by decide) (by decide) (by decide) ?_
        exact lc_1 G GR SF GT X E S hL I jR jSEQ p1 p2  (by omega) (by omega) (by omega) hk
      ·
        rw [gs]
        refine w_tabIn X.1 (dflt := 1861) (lo := 0) (hi := 43) (offs := #[192, 265, 293, 321, 334, 374, 435, 484, 524, 564, 616, 656, 708, 748, 776, 816, 844, 872, 900, 913, 926, 954, 982, 1010, 1050, 1063, 1091, 1131, 1159, 1199, 1239, 1279, 1331, 1371, 1399, 1490, 1554, 1634, 1662, 1742, 1782, 1810, 1823, 1836]) (len := 192) (off := 293) (t := 333) (ax_d X (show cdA 350 40 = some (.tableswitch 1861 0 43 #[192, 265, 293, 321, 334, 374, 435, 484, 524, 564, 616, 656, 708, 748, 776, 816, 844, 872, 900, 913, 926, 954, 982, 1010, 1050, 1063, 1091, 1131, 1159, 1199, 1239, 1279, 1331, 1371, 1399, 1490, 1554, 1634, 1662, 1742, 1782, 1810, 1823, 1836], 192, 0, 0, 0) from rfl)) (by decide) (by decide) (by decide) (by decide) ?_
        exact lc_2 G GR SF GT X E S hL I jR jSEQ p1 p2  (by omega) (by omega) (by omega) hk
      ·
        rw [gs]
        refine w_tabIn X.1 (dflt := 1861) (lo := 0) (hi := 43) (offs := #[192, 265, 293, 321, 334, 374, 435, 484, 524, 564, 616, 656, 708, 748, 776, 816, 844, 872, 900, 913, 926, 954, 982, 1010, 1050, 1063, 1091, 1131, 1159, 1199, 1239, 1279, 1331, 1371, 1399, 1490, 1554, 1634, 1662, 1742, 1782, 1810, 1823, 1836]) (len := 192) (off := 321) (t := 361) (ax_d X (show cdA 350 40 = some (.tableswitch 1861 0 43 #[192, 265, 293, 321, 334, 374, 435, 484, 524, 564, 616, 656, 708, 748, 776, 816, 844, 872, 900, 913, 926, 954, 982, 1010, 1050, 1063, 1091, 1131, 1159, 1199, 1239, 1279, 1331, 1371, 1399, 1490, 1554, 1634, 1662, 1742, 1782, 1810, 1823, 1836], 192, 0, 0, 0) from rfl)) (by decide) (by decide) (by decide) (by decide) ?_
        exact lc_3 G GR SF GT X E S hL I jR jSEQ p1 p2  (by omega) (by omega) (by omega) hk
      ·
        rw [gs]
        refine w_tabIn X.1 (dflt := 1861) (lo := 0) (hi := 43) (offs := #[192, 265, 293, 321, 334, 374, 435, 484, 524, 564, 616, 656, 708, 748, 776, 816, 844, 872, 900, 913, 926, 954, 982, 1010, 1050, 1063, 1091, 1131, 1159, 1199, 1239, 1279, 1331, 1371, 1399, 1490, 1554, 1634, 1662, 1742, 1782, 1810, 1823, 1836]) (len := 192) (off := 334) (t := 374) (ax_d X (show cdA 350 40 = some (.tableswitch 1861 0 43 #[192, 265, 293, 321, 334, 374, 435, 484, 524, 564, 616, 656, 708, 748, 776, 816, 844, 872, 900, 913, 926, 954, 982, 1010, 1050, 1063, 1091, 1131, 1159, 1199, 1239, 1279, 1331, 1371, 1399, 1490, 1554, 1634, 1662, 1742, 1782, 1810, 1823, 1836], 192, 0, 0, 0) from rfl)) (by decide) (by decide) (by decide) (by decide) ?_
        exact lc_4 G GR SF GT X E S hL I jR jSEQ p1 p2  (by omega) (by omega) (by omega) hk
      ·
        rw [gs]
        refine w_tabIn X.1 (dflt := 1861) (lo := 0) (hi := 43) (offs := #[192, 265, 293, 321, 334, 374, 435, 484, 524, 564, 616, 656, 708, 748, 776, 816, 844, 872, 900, 913, 926, 954, 982, 1010, 1050, 1063, 1091, 1131, 1159, 1199, 1239, 1279, 1331, 1371, 1399, 1490, 1554, 1634, 1662, 1742, 1782, 1810, 1823, 1836]) (len := 192) (off := 374) (t := 414) (ax_d X (show cdA 350 40 = some (.tableswitch 1861 0 43 #[192, 265, 293, 321, 334, 374, 435, 484, 524, 564, 616, 656, 708, 748, 776, 816, 844, 872, 900, 913, 926, 954, 982, 1010, 1050, 1063, 1091, 1131, 1159, 1199, 1239, 1279, 1331, 1371, 1399, 1490, 1554, 1634, 1662, 1742, 1782, 1810, 1823, 1836], 192, 0, 0, 0) from rfl)) (by decide) (by decide) (by decide) (by decide) ?_
        exact lc_5 G GR SF GT X E S hL I jR jSEQ p1 p2  (by omega) (by omega) (by omega) hk
      ·
        rw [gs]
        refine w_tabIn X.1 (dflt := 1861) (lo := 0) (hi := 43) (offs := #[192, 265, 293, 321, 334, 374, 435, 484, 524, 564, 616, 656, 708, 748, 776, 816, 844, 872, 900, 913, 926, 954, 982, 1010, 1050, 1063, 1091, 1131, 1159, 1199, 1239, 1279, 1331, 1371, 1399, 1490, 1554, 1634, 1662, 1742, 1782, 1810, 1823, 1836]) (len := 192) (off := 435) (t := 475) (ax_d X (show cdA 350 40 = some (.tableswitch 1861 0 43 #[192, 265, 293, 321, 334, 374, 435, 484, 524, 564, 616, 656, 708, 748, 776, 816, 844, 872, 900, 913, 926, 954, 982, 1010, 1050, 1063, 1091, 1131, 1159, 1199, 1239, 1279, 1331, 1371, 1399, 1490, 1554, 1634, 1662, 1742, 1782, 1810, 1823, 1836], 192, 0, 0, 0) from rfl)) (by decide) (by decide) (by decide) (by decide) ?_
        exact lc_6 G GR SF GT X E S hL I jR jSEQ p1 p2  (by omega) (by omega) (by omega) hk
      ·
        rw [gs]
        refine w_tabIn X.1 (dflt := 1861) (lo := 0) (hi := 43) (offs := #[192, 265, 293, 321, 334, 374, 435, 484, 524, 564, 616, 656, 708, 748, 776, 816, 844, 872, 900, 913, 926, 954, 982, 1010, 1050, 1063, 1091, 1131, 1159, 1199, 1239, 1279, 1331, 1371, 1399, 1490, 1554, 1634, 1662, 1742, 1782, 1810, 1823, 1836]) (len := 192) (off := 484) (t := 524) (ax_d X (show cdA 350 40 = some (.tableswitch 1861 0 43 #[192, 265, 293, 321, 334, 374, 435, 484, 524, 564, 616, 656, 708, 748, 776, 816, 844, 872, 900, 913, 926, 954, 982, 1010, 1050, 1063, 1091, 1131, 1159, 1199, 1239, 1279, 1331, 1371, 1399, 1490, 1554, 1634, 1662, 1742, 1782, 1810, 1823, 1836], 192, 0, 0, 0) from rfl)) (by decide) (by decide) (by decide) (by decide) ?_
        exact lc_7 G GR SF GT X E S hL I jR jSEQ p1 p2  (by omega) (by omega) (by omega) hk
      ·
        rw [gs]
        refine w_tabIn X.1 (dflt := 1861) (lo := 0) (hi := 43) (offs := #[192, 265, 293, 321, 334, 374, 435, 484, 524, 564, 616, 656, 708, 748, 776, 816, 844, 872, 900, 913, 926, 954, 982, 1010, 1050, 1063, 1091, 1131, 1159, 1199, 1239, 1279, 1331, 1371, 1399, 1490, 1554, 1634, 1662, 1742, 1782, 1810, 1823, 1836]) (len := 192) (off := 524) (t := 564) (ax_d X (show cdA 350 40 = some (.tableswitch 1861 0 43 #[192, 265, 293, 321, 334, 374, 435, 484, 524, 564, 616, 656, 708, 748, 776, 816, 844, 872, 900, 913, 926, 954, 982, 1010, 1050, 1063, 1091, 1131, 1159, 1199, 1239, 1279, 1331, 1371, 1399, 1490, 1554, 1634, 1662, 1742, 1782, 1810, 1823, 1836], 192, 0, 0, 0) from rfl)) (by decide) (by decide) (by decide) (by decide) ?_
        exact lc_8 G GR SF GT X E S hL I jR jSEQ p1 p2  (by omega) (by omega) (by omega) hk
      ·
        rw [gs]
        refine w_tabIn X.1 (dflt := 1861) (lo := 0) (hi := 43) (offs := #[192, 265, 293, 321, 334, 374, 435, 484, 524, 564, 616, 656, 708, 748, 776, 816, 844, 872, 900, 913, 926, 954, 982, 1010, 1050, 1063, 1091, 1131, 1159, 1199, 1239, 1279, 1331, 1371, 1399, 1490, 1554, 1634, 1662, 1742, 1782, 1810, 1823, 1836]) (len := 192) (off := 564) (t := 604) (ax_d X (show cdA 350 40 = some (.tableswitch 1861 0 43 #[192, 265, 293, 321, 334, 374, 435, 484, 524, 564, 616, 656, 708, 748, 776, 816, 844, 872, 900, 913, 926, 954, 982, 1010, 1050, 1063, 1091, 1131, 1159, 1199, 1239, 1279, 1331, 1371, 1399, 1490, 1554, 1634, 1662, 1742, 1782, 1810, 1823, 1836], 192, 0, 0, 0) from rfl)) (by decide) (by decide) (by decide) (by decide) ?_
        exact lc_9 G GR SF GT X E S hL I jR jSEQ p1 p2  (by omega) (by omega) (by omega) hk
      ·
        rw [gs]
        refine w_tabIn X.1 (dflt := 1861) (lo := 0) (hi := 43) (offs := #[192, 265, 293, 321, 334, 374, 435, 484, 524, 564, 616, 656, 708, 748, 776, 816, 844, 872, 900, 913, 926, 954, 982, 1010, 1050, 1063, 1091, 1131, 1159, 1199, 1239, 1279, 1331, 1371, 1399, 1490, 1554, 1634, 1662, 1742, 1782, 1810, 1823, 1836]) (len := 192) (off := 616) (t := 656) (ax_d X (show cdA 350 40 = some (.tableswitch 1861 0 43 #[192, 265, 293, 321, 334, 374, 435, 484, 524, 564, 616, 656, 708, 748, 776, 816, 844, 872, 900, 913, 926, 954, 982, 1010, 1050, 1063, 1091, 1131, 1159, 1199, 1239, 1279, 1331, 1371, 1399, 1490, 1554, 1634, 1662, 1742, 1782, 1810, 1823, 1836], 192, 0, 0, 0) from rfl)) (by decide) (by decide) (by decide) (by decide) ?_
        exact lc_10 G GR SF GT X E S hL I jR jSEQ p1 p2  (by omega) (by omega) (by omega) hk
      ·
        rw [gs]
        refine w_tabIn X.1 (dflt := 1861) (lo := 0) (hi := 43) (offs := #[192, 265, 293, 321, 334, 374, 435, 484, 524, 564, 616, 656, 708, 748, 776, 816, 844, 872, 900, 913, 926, 954, 982, 1010, 1050, 1063, 1091, 1131, 1159, 1199, 1239, 1279, 1331, 1371, 1399, 1490, 1554, 1634, 1662, 1742, 1782, 1810, 1823, 1836]) (len := 192) (off := 656) (t := 696) (ax_d X (show cdA 350 40 = some (.tableswitch 1861 0 43 #[192, 265, 293, 321, 334, 374, 435, 484, 524, 564, 616, 656, 708, 748, 776, 816, 844, 872, 900, 913, 926, 954, 982, 1010, 1050, 1063, 1091, 1131, 1159, 1199, 1239, 1279, 1331, 1371, 1399, 1490, 1554, 1634, 1662, 1742, 1782, 1810, 1823, 1836], 192, 0, 0, 0) from rfl)) (by decide) (by decide) (by decide) (by decide) ?_
        exact lc_11 G GR SF GT X E S hL I jR jSEQ p1 p2  (by omega) (by omega) (by omega) hk
      ·
        rw [gs]
        refine w_tabIn X.1 (dflt := 1861) (lo := 0) (hi := 43) (offs := #[192, 265, 293, 321, 334, 374, 435, 484, 524, 564, 616, 656, 708, 748, 776, 816, 844, 872, 900, 913, 926, 954, 982, 1010, 1050, 1063, 1091, 1131, 1159, 1199, 1239, 1279, 1331, 1371, 1399, 1490, 1554, 1634, 1662, 1742, 1782, 1810, 1823, 1836]) (len := 192) (off := 708) (t := 748) (ax_d X (show cdA 350 40 = some (.tableswitch 1861 0 43 #[192, 265, 293, 321, 334, 374, 435, 484, 524, 564, 616, 656, 708, 748, 776, 816, 844, 872, 900, 913, 926, 954, 982, 1010, 1050, 1063, 1091, 1131, 1159, 1199, 1239, 1279, 1331, 1371, 1399, 1490, 1554, 1634, 1662, 1742, 1782, 1810, 1823, 1836], 192, 0, 0, 0) from rfl)) (by decide) (by decide) (by decide) (by decide) ?_
        exact lc_12 G GR SF GT X E S hL I jR jSEQ p1 p2  (by omega) (by omega) (by omega) hk
      ·
        rw [gs]
        refine w_tabIn X.1 (dflt := 1861) (lo := 0) (hi := 43) (offs := #[192, 265, 293, 321, 334, 374, 435, 484, 524, 564, 616, 656, 708, 748, 776, 816, 844, 872, 900, 913, 926, 954, 982, 1010, 1050, 1063, 1091, 1131, 1159, 1199, 1239, 1279, 1331, 1371, 1399, 1490, 1554, 1634, 1662, 1742, 1782, 1810, 1823, 1836]) (len := 192) (off := 748) (t := 788) (ax_d X (show cdA 350 40 = some (.tableswitch 1861 0 43 #[192, 265, 293, 321, 334, 374, 435, 484, 524, 564, 616, 656, 708, 748, 776, 816, 844, 872, 900, 913, 926, 954, 982, 1010, 1050, 1063, 1091, 1131, 1159, 1199, 1239, 1279, 1331, 1371, 1399, 1490, 1554, 1634, 1662, 1742, 1782, 1810, 1823, 1836], 192, 0, 0, 0) from rfl)) (by decide) (by decide) (by decide) (by decide) ?_
        exact lc_13 G GR SF GT X E S hL I jR jSEQ p1 p2  (by omega) (by omega) (by omega) hk
      ·
        rw [gs]
        refine w_tabIn X.1 (dflt := 1861) (lo := 0) (hi := 43) (offs := #[192, 265, 293, 321, 334, 374, 435, 484, 524, 564, 616, 656, 708, 748, 776, 816, 844, 872, 900, 913, 926, 954, 982, 1010, 1050, 1063, 1091, 1131, 1159, 1199, 1239, 1279, 1331, 1371, 1399, 1490, 1554, 1634, 1662, 1742, 1782, 1810, 1823, 1836]) (len := 192) (off := 776) (t := 816) (ax_d X (show cdA 350 40 = some (.tableswitch 1861 0 43 #[192, 265, 293, 321, 334, 374, 435, 484, 524, 564, 616, 656, 708, 748, 776, 816, 844, 872, 900, 913, 926, 954, 982, 1010, 1050, 1063, 1091, 1131, 1159, 1199, 1239, 1279, 1331, 1371, 1399, 1490, 1554, 1634, 1662, 1742, 1782, 1810, 1823, 1836], 192, 0, 0, 0) from rfl)) (by decide) (by decide) (by decide) (by decide) ?_
        exact lc_14 G GR SF GT X E S hL I jR jSEQ p1 p2  (by omega) (by omega) (by omega) hk
      ·
        rw [gs]
        refine w_tabIn X.1 (dflt := 1861) (lo := 0) (hi := 43) (offs := #[192, 265, 293, 321, 334, 374, 435, 484, 524, 564, 616, 656, 708, 748, 776, 816, 844, 872, 900, 913, 926, 954, 982, 1010, 1050, 1063, 1091, 1131, 1159, 1199, 1239, 1279, 1331, 1371, 1399, 1490, 1554, 1634, 1662, 1742, 1782, 1810, 1823, 1836]) (len := 192) (off := 816) (t := 856) (ax_d X (show cdA 350 40 = some (.tableswitch 1861 0 43 #[192, 265, 293, 321, 334, 374, 435, 484, 524, 564, 616, 656, 708, 748, 776, 816, 844, 872, 900, 913, 926, 954, 982, 1010, 1050, 1063, 1091, 1131, 1159, 1199, 1239, 1279, 1331, 1371, 1399, 1490, 1554, 1634, 1662, 1742, 1782, 1810, 1823, 1836], 192, 0, 0, 0) from rfl)) (by decide) (by decide) (by decide) (by decide) ?_
        exact lc_15 G GR SF GT X E S hL I jR jSEQ p1 p2  (by omega) (by omega) (by omega) hk
      ·
        rw [gs]
        refine w_tabIn X.1 (dflt := 1861) (lo := 0) (hi := 43) (offs := #[192, 265, 293, 321, 334, 374, 435, 484, 524, 564, 616, 656, 708, 748, 776, 816, 844, 872, 900, 913, 926, 954, 982, 1010, 1050, 1063, 1091, 1131, 1159, 1199, 1239, 1279, 1331, 1371, 1399, 1490, 1554, 1634, 1662, 1742, 1782, 1810, 1823, 1836]) (len := 192) (off := 844) (t := 884) (ax_d X (show cdA 350 40 = some (.tableswitch 1861 0 43 #[192, 265, 293, 321, 334, 374, 435, 484, 524, 564, 616, 656, 708, 748, 776, 816, 844, 872, 900, 913, 926, 954, 982, 1010, 1050, 1063, 1091, 1131, 1159, 1199, 1239, 1279, 1331, 1371, 1399, 1490, 1554, 1634, 1662, 1742, 1782, 1810, 1823, 1836], 192, 0, 0, 0) from rfl)) (by decide) (by decide) (by decide) (by decide) ?_
        exact lc_16 G GR SF GT X E S hL I jR jSEQ p1 p2  (by omega) (by omega) (by omega) hk
      ·
        rw [gs]
        refine w_tabIn X.1 (dflt := 1861) (lo := 0) (hi := 43) (offs := #[192, 265, 293, 321, 334, 374, 435, 484, 524, 564, 616, 656, 708, 748, 776, 816, 844, 872, 900, 913, 926, 954, 982, 1010, 1050, 1063, 1091, 1131, 1159, 1199, 1239, 1279, 1331, 1371, 1399, 1490, 1554, 1634, 1662, 1742, 1782, 1810, 1823, 1836]) (len := 192) (off := 872) (t := 912) (ax_d X (show cdA 350 40 = some (.tableswitch 1861 0 43 #[192, 265, 293, 321, 334, 374, 435, 484, 524, 564, 616, 656, 708, 748, 776, 816, 844, 872, 900, 913, 926, 954, 982, 1010, 1050, 1063, 1091, 1131, 1159, 1199, 1239, 1279, 1331, 1371, 1399, 1490, 1554, 1634, 1662, 1742, 1782, 1810, 1823, 1836], 192, 0, 0, 0) from rfl)) (by decide) (by decide) (by decide) (by decide) ?_
        exact lc_17 G GR SF GT X E S hL I jR jSEQ p1 p2  (by omega) (by omega) (by omega) hk
      ·
        rw [gs]
        refine w_tabIn X.1 (dflt := 1861) (lo := 0) (hi := 43) (offs := #[192, 265, 293, 321, 334, 374, 435, 484, 524, 564, 616, 656, 708, 748, 776, 816, 844, 872, 900, 913, 926, 954, 982, 1010, 1050, 1063, 1091, 1131, 1159, 1199, 1239, 1279, 1331, 1371, 1399, 1490, 1554, 1634, 1662, 1742, 1782, 1810, 1823, 1836]) (len := 192) (off := 900) (t := 940) (ax_d X (show cdA 350 40 = some (.tableswitch 1861 0 43 #[192, 265, 293, 321, 334, 374, 435, 484, 524, 564, 616, 656, 708, 748, 776, 816, 844, 872, 900, 913, 926, 954, 982, 1010, 1050, 1063, 1091, 1131, 1159, 1199, 1239, 1279, 1331, 1371, 1399, 1490, 1554, 1634, 1662, 1742, 1782, 1810, 1823, 1836], 192, 0, 0, 0) from rfl)) (by decide) (by decide) (by decide) (by decide) ?_
        exact lc_18 G GR SF GT X E S hL I jR jSEQ p1 p2  (by omega) (by omega) (by omega) hk
      ·
        rw [gs]
        refine w_tabIn X.1 (dflt := 1861) (lo := 0) (hi := 43) (offs := #[192, 265, 293, 321, 334, 374, 435, 484, 524, 564, 616, 656, 708, 748, 776, 816, 844, 872, 900, 913, 926, 954, 982, 1010, 1050, 1063, 1091, 1131, 1159, 1199, 1239, 1279, 1331, 1371, 1399, 1490, 1554, 1634, 1662, 1742, 1782, 1810, 1823, 1836]) (len := 192) (off := 913) (t := 953) (ax_d X (show cdA 350 40 = some (.tableswitch 1861 0 43 #[192, 265, 293, 321, 334, 374, 435, 484, 524, 564, 616, 656, 708, 748, 776, 816, 844, 872, 900, 913, 926, 954, 982, 1010, 1050, 1063, 1091, 1131, 1159, 1199, 1239, 1279, 1331, 1371, 1399, 1490, 1554, 1634, 1662, 1742, 1782, 1810, 1823, 1836], 192, 0, 0, 0) from rfl)) (by decide) (by decide) (by decide) (by decide) ?_
        exact lc_19 G GR SF GT X E S hL I jR jSEQ p1 p2  (by omega) (by omega) (by omega) hk
      ·
        rw [gs]
        refine w_tabIn X.1 (dflt := 1861) (lo := 0) (hi := 43) (offs := #[192, 265, 293, 321, 334, 374, 435, 484, 524, 564, 616, 656, 708, 748, 776, 816, 844, 872, 900, 913, 926, 954, 982, 1010, 1050, 1063, 1091, 1131, 1159, 1199, 1239, 1279, 1331, 1371, 1399, 1490, 1554, 1634, 1662, 1742, 1782, 1810, 1823, 1836]) (len := 192) (off := 926) (t := 966) (ax_d X (show cdA 350 40 = some (.tableswitch 1861 0 43 #[192, 265, 293, 321, 334, 374, 435, 484, 524, 564, 616, 656, 708, 748, 776, 816, 844, 872, 900, 913, 926, 954, 982, 1010, 1050, 1063, 1091, 1131, 1159, 1199, 1239, 1279, 1331, 1371, 1399, 1490, 1554, 1634, 1662, 1742, 1782, 1810, 1823, 1836], 192, 0, 0, 0) from rfl)) (by decide) (by decide) (by decide) (by decide) ?_
        exact lc_20 G GR SF GT X E S hL I jR jSEQ p1 p2  (by omega) (by omega) (by omega) hk
      ·
        rw [gs]
        refine w_tabIn X.1 (dflt := 1861) (lo := 0) (hi := 43) (offs := #[192, 265, 293, 321, 334, 374, 435, 484, 524, 564, 616, 656, 708, 748, 776, 816, 844, 872, 900, 913, 926, 954, 982, 1010, 1050, 1063, 1091, 1131, 1159, 1199, 1239, 1279, 1331, 1371, 1399, 1490, 1554, 1634, 1662, 1742, 1782, 1810, 1823, 1836]) (len := 192) (off := 954) (t := 994) (ax_d X (show cdA 350 40 = some (.tableswitch 1861 0 43 #[192, 265, 293, 321, 334, 374, 435, 484, 524, 564, 616, 656, 708, 748, 776, 816, 844, 872, 900, 913, 926, 954, 982, 1010, 1050, 1063, 1091, 1131, 1159, 1199, 1239, 1279, 1331, 1371, 1399, 1490, 1554, 1634, 1662, 1742, 1782, 1810, 1823, 1836], 192, 0, 0, 0) from rfl)) (by decide) (by decide) (by decide) (by decide) ?_
        exact lc_21 G GR SF GT X E S hL I jR jSEQ p1 p2  (by omega) (by omega) (by omega) hk
      ·
        rw [gs]
        refine w_tabIn X.1 (dflt := 1861) (lo := 0) (hi := 43) (offs := #[192, 265, 293, 321, 334, 374, 435, 484, 524, 564, 616, 656, 708, 748, 776, 816, 844, 872, 900, 913, 926, 954, 982, 1010, 1050, 1063, 1091, 1131, 1159, 1199, 1239, 1279, 1331, 1371, 1399, 1490, 1554, 1634, 1662, 1742, 1782, 1810, 1823, 1836]) (len := 192) (off := 982) (t := 1022) (ax_d X (show cdA 350 40 = some (.tableswitch 1861 0 43 #[192, 265, 293, 321, 334, 374, 435, 484, 524, 564, 616, 656, 708, 748, 776, 816, 844, 872, 900, 913, 926, 954, 982, 1010, 1050, 1063, 1091, 1131, 1159, 1199, 1239, 1279, 1331, 1371, 1399, 1490, 1554, 1634, 1662, 1742, 1782, 1810, 1823, 1836], 192, 0, 0, 0) from rfl)) (by decide) (by decide) (by decide) (by decide) ?_
        exact lc_22 G GR SF GT X E S hL I jR jSEQ p1 p2  (by omega) (by omega) (by omega) hk
      ·
        rw [gs]
        refine w_tabIn X.1 (dflt := 1861) (lo := 0) (hi := 43) (offs := #[192, 265, 293, 321, 334, 374, 435, 484, 524, 564, 616, 656, 708, 748, 776, 816, 844, 872, 900, 913, 926, 954, 982, 1010, 1050, 1063, 1091, 1131, 1159, 1199, 1239, 1279, 1331, 1371, 1399, 1490, 1554, 1634, 1662, 1742, 1782, 1810, 1823, 1836]) (len := 192) (off := 1010) (t := 1050) (ax_d X (show cdA 350 40 = some (.tableswitch 1861 0 43 #[192, 265, 293, 321, 334, 374, 435, 484, 524, 564, 616, 656, 708, 748, 776, 816, 844, 872, 900, 913, 926, 954, 982, 1010, 1050, 1063, 1091, 1131, 1159, 1199, 1239, 1279, 1331, 1371, 1399, 1490, 1554, 1634, 1662, 1742, 1782, 1810, 1823, 1836], 192, 0, 0, 0) from rfl)) (by decide) (by decide) (by decide) (by decide) ?_
        exact lc_23 G GR SF GT X E S hL I jR jSEQ p1 p2  (by omega) (by omega) (by omega) hk
      ·
        rw [gs]
        refine w_tabIn X.1 (dflt := 1861) (lo := 0) (hi := 43) (offs := #[192, 265, 293, 321, 334, 374, 435, 484, 524, 564, 616, 656, 708, 748, 776, 816, 844, 872, 900, 913, 926, 954, 982, 1010, 1050, 1063, 1091, 1131, 1159, 1199, 1239, 1279, 1331, 1371, 1399, 1490, 1554, 1634, 1662, 1742, 1782, 1810, 1823, 1836]) (len := 192) (off := 1050) (t := 1090) (ax_d X (show cdA 350 40 = some (.tableswitch 1861 0 43 #[192, 265, 293, 321, 334, 374, 435, 484, 524, 564, 616, 656, 708, 748, 776, 816, 844, 872, 900, 913, 926, 954, 982, 1010, 1050, 1063, 1091, 1131, 1159, 1199, 1239, 1279, 1331, 1371, 1399, 1490, 1554, 1634, 1662, 1742, 1782, 1810, 1823, 1836], 192, 0, 0, 0) from rfl)) (by decide) (by decide) (by decide) (by decide) ?_
        exact lc_24 G GR SF GT X E S hL I jR jSEQ p1 p2  (by omega) (by omega) (by omega) hk
      ·
        rw [gs]
        refine w_tabIn X.1 (dflt := 1861) (lo := 0) (hi := 43) (offs := #[192, 265, 293, 321, 334, 374, 435, 484, 524, 564, 616, 656, 708, 748, 776, 816, 844, 872, 900, 913, 926, 954, 982, 1010, 1050, 1063, 1091, 1131, 1159, 1199, 1239, 1279, 1331, 1371, 1399, 1490, 1554, 1634, 1662, 1742, 1782, 1810, 1823, 1836]) (len := 192) (off := 1063) (t := 1103) (ax_d X (show cdA 350 40 = some (.tableswitch 1861 0 43 #[192, 265, 293, 321, 334, 374, 435, 484, 524, 564, 616, 656, 708, 748, 776, 816, 844, 872, 900, 913, 926, 954, 982, 1010, 1050, 1063, 1091, 1131, 1159, 1199, 1239, 1279, 1331, 1371, 1399, 1490, 1554, 1634, 1662, 1742, 1782, 1810, 1823, 1836], 192, 0, 0, 0) from rfl)) (by decide) (by decide) (by decide) (by decide) ?_
        exact lc_25 G GR SF GT X E S hL I jR jSEQ p1 p2  (by omega) (by omega) (by omega) hk
      ·
        rw [gs]
        refine w_tabIn X.1 (dflt := 1861) (lo := 0) (hi := 43) (offs := #[192, 265, 293, 321, 334, 374, 435, 484, 524, 564, 616, 656, 708, 748, 776, 816, 844, 872, 900, 913, 926, 954, 982, 1010, 1050, 1063, 1091, 1131, 1159, 1199, 1239, 1279, 1331, 1371, 1399, 1490, 1554, 1634, 1662, 1742, 1782, 1810, 1823, 1836]) (len := 192) (off := 1091) (t := 1131) (ax_d X (show cdA 350 40 = some (.tableswitch 1861 0 43 #[192, 265, 293, 321, 334, 374, 435, 484, 524, 564, 616, 656, 708, 748, 776, 816, 844, 872, 900, 913, 926, 954, 982, 1010, 1050, 1063, 1091, 1131, 1159, 1199, 1239, 1279, 1331, 1371, 1399, 1490, 1554, 1634, 1662, 1742, 1782, 1810, 1823, 1836], 192, 0, 0, 0) from rfl)) (by decide) (by decide) (by decide) (by decide) ?_
        exact lc_26 G GR SF GT X E S hL I jR jSEQ p1 p2  (by omega) (by omega) (by omega) hk
      ·
        rw [gs]
        refine w_tabIn X.1 (dflt := 1861) (lo := 0) (hi := 43) (offs := #[192, 265, 293, 321, 334, 374, 435, 484, 524, 564, 616, 656, 708, 748, 776, 816, 844, 872, 900, 913, 926, 954, 982, 1010, 1050, 1063, 1091, 1131, 1159, 1199, 1239, 1279, 1331, 1371, 1399, 1490, 1554, 1634, 1662, 1742, 1782, 1810, 1823, 1836]) (len := 192) (off := 1131) (t := 1171) (ax_d X (show cdA 350 40 = some (.tableswitch 1861 0 43 #[192, 265, 293, 321, 334, 374, 435, 484, 524, 564, 616, 656, 708, 748, 776, 816, 844, 872, 900, 913, 926, 954, 982, 1010, 1050, 1063, 1091, 1131, 1159, 1199, 1239, 1279, 1331, 1371, 1399, 1490, 1554, 1634, 1662, 1742, 1782, 1810, 1823, 1836], 192, 0, 0, 0) from rfl)) (by decide) (by decide) (by decide) (by decide) ?_
        exact lc_27 G GR SF GT X E S hL I jR jSEQ p1 p2  (by omega) (by omega) (by omega) hk
      ·
        rw [gs]
        refine w_tabIn X.1 (dflt := 1861) (lo := 0) (hi := 43) (offs := #[192, 265, 293, 321, 334, 374, 435, 484, 524, 564, 616, 656, 708, 748, 776, 816, 844, 872, 900, 913, 926, 954, 982, 1010, 1050, 1063, 1091, 1131, 1159, 1199, 1239, 1279, 1331, 1371, 1399, 1490, 1554, 1634, 1662, 1742, 1782, 1810, 1823, 1836]) (len := 192) (off := 1159) (t := 1199) (ax_d X (show cdA 350 40 = some (.tableswitch 1861 0 43 #[192, 265, 293, 321, 334, 374, 435, 484, 524, 564, 616, 656, 708, 748, 776, 816, 844, 872, 900, 913, 926, 954, 982, 1010, 1050, 1063, 1091, 1131, 1159, 1199, 1239, 1279, 1331, 1371, 1399, 1490, 1554, 1634, 1662, 1742, 1782, 1810, 1823, 1836], 192, 0, 0, 0) from rfl)) (by decide) (by decide) (by decide) (by decide) ?_
        exact lc_28 G GR SF GT X E S hL I jR jSEQ p1 p2  (by omega) (by omega) (by omega) hk
      ·
        rw [gs]
        refine w_tabIn X.1 (dflt := 1861) (lo := 0) (hi := 43) (offs := #[192, 265, 293, 321, 334, 374, 435, 484, 524, 564, 616, 656, 708, 748, 776, 816, 844, 872, 900, 913, 926, 954, 982, 1010, 1050, 1063, 1091, 1131, 1159, 1199, 1239, 1279, 1331, 1371, 1399, 1490, 1554, 1634, 1662, 1742, 1782, 1810, 1823, 1836]) (len := 192) (off := 1199) (t := 1239) (ax_d X (show cdA 350 40 = some (.tableswitch 1861 0 43 #[192, 265, 293, 321, 334, 374, 435, 484, 524, 564, 616, 656, 708, 748, 776, 816, 844, 872, 900, 913, 926, 954, 982, 1010, 1050, 1063, 1091, 1131, 1159, 1199, 1239, 1279, 1331, 1371, 1399, 1490, 1554, 1634, 1662, 1742, 1782, 1810, 1823, 1836], 192, 0, 0, 0) from rfl)) (by decide) (by decide) (by decide) (by decide) ?_
        exact lc_29 G GR SF GT X E S hL I jR jSEQ p1 p2  (by omega) (by omega) (by omega) hk
      ·
        rw [gs]
        refine w_tabIn X.1 (dflt := 1861) (lo := 0) (hi := 43) (offs := #[192, 265, 293, 321, 334, 374, 435, 484, 524, 564, 616, 656, 708, 748, 776, 816, 844, 872, 900, 913, 926, 954, 982, 1010, 1050, 1063, 1091, 1131, 1159, 1199, 1239, 1279, 1331, 1371, 1399, 1490, 1554, 1634, 1662, 1742, 1782, 1810, 1823, 1836]) (len := 192) (off := 1239) (t := 1279) (ax_d X (show cdA 350 40 = some (.tableswitch 1861 0 43 #[192, 265, 293, 321, 334, 374, 435, 484, 524, 564, 616, 656, 708, 748, 776, 816, 844, 872, 900, 913, 926, 954, 982, 1010, 1050, 1063, 1091, 1131, 1159, 1199, 1239, 1279, 1331, 1371, 1399, 1490, 1554, 1634, 1662, 1742, 1782, 1810, 1823, 1836], 192, 0, 0, 0) from rfl)) (by decide) (by decide) (by decide) (by decide) ?_
        exact lc_30 G GR SF GT X E S hL I jR jSEQ p1 p2  (by omega) (by omega) (by omega) hk
      ·
        rw [gs]
        refine w_tabIn X.1 (dflt := 1861) (lo := 0) (hi := 43) (offs := #[192, 265, 293, 321, 334, 374, 435, 484, 524, 564, 616, 656, 708, 748, 776, 816, 844, 872, 900, 913, 926, 954, 982, 1010, 1050, 1063, 1091, 1131, 1159, 1199, 1239, 1279, 1331, 1371, 1399, 1490, 1554, 1634, 1662, 1742, 1782, 1810, 1823, 1836]) (len := 192) (off := 1279) (t := 1319) (ax_d X (show cdA 350 40 = some (.tableswitch 1861 0 43 #[192, 265, 293, 321, 334, 374, 435, 484, 524, 564, 616, 656, 708, 748, 776, 816, 844, 872, 900, 913, 926, 954, 982, 1010, 1050, 1063, 1091, 1131, 1159, 1199, 1239, 1279, 1331, 1371, 1399, 1490, 1554, 1634, 1662, 1742, 1782, 1810, 1823, 1836], 192, 0, 0, 0) from rfl)) (by decide) (by decide) (by decide) (by decide) ?_
        exact lc_31 G GR SF GT X E S hL I jR jSEQ p1 p2  (by omega) (by omega) (by omega) hk
      ·
        rw [gs]
        refine w_tabIn X.1 (dflt := 1861) (lo := 0) (hi := 43) (offs := #[192, 265, 293, 321, 334, 374, 435, 484, 524, 564, 616, 656, 708, 748, 776, 816, 844, 872, 900, 913, 926, 954, 982, 1010, 1050, 1063, 1091, 1131, 1159, 1199, 1239, 1279, 1331, 1371, 1399, 1490, 1554, 1634, 1662, 1742, 1782, 1810, 1823, 1836]) (len := 192) (off := 1331) (t := 1371) (ax_d X (show cdA 350 40 = some (.tableswitch 1861 0 43 #[192, 265, 293, 321, 334, 374, 435, 484, 524, 564, 616, 656, 708, 748, 776, 816, 844, 872, 900, 913, 926, 954, 982, 1010, 1050, 1063, 1091, 1131, 1159, 1199, 1239, 1279, 1331, 1371, 1399, 1490, 1554, 1634, 1662, 1742, 1782, 1810, 1823, 1836], 192, 0, 0, 0) from rfl)) (by decide) (by decide) (by decide) (by decide) ?_
        exact lc_32 G GR SF GT X E S hL I jR jSEQ p1 p2  (by omega) (by omega) (by omega) hk
      ·
        rw [gs]
        refine w_tabIn X.1 (dflt := 1861) (lo := 0) (hi := 43) (offs := #[192, 265, 293, 321, 334, 374, 435, 484, 524, 564, 616, 656, 708, 748, 776, 816, 844, 872, 900, 913, 926, 954, 982, 1010, 1050, 1063, 1091, 1131, 1159, 1199, 1239, 1279, 1331, 1371, 1399, 1490, 1554, 1634, 1662, 1742, 1782, 1810, 1823, 1836]) (len := 192) (off := 1371) (t := 1411) (ax_d X (show cdA 350 40 = some (.tableswitch 1861 0 43 #[192, 265, 293, 321, 334, 374, 435, 484, 524, 564, 616, 656, 708, 748, 776, 816, 844, 872, 900, 913, 926, 954, 982, 1010, 1050, 1063, 1091, 1131, 1159, 1199, 1239, 1279, 1331, 1371, 1399, 1490, 1554, 1634, 1662, 1742, 1782, 1810, 1823, 1836], 192, 0, 0, 0) from rfl)) (by decide) (by decide) (by decide) (by decide) ?_
        exact lc_33 G GR SF GT X E S hL I jR jSEQ p1 p2  (by omega) (by omega) (by omega) hk
      ·
        rw [gs]
        refine w_tabIn X.1 (dflt := 1861) (lo := 0) (hi := 43) (offs := #[192, 265, 293, 321, 334, 374, 435, 484, 524, 564, 616, 656, 708, 748, 776, 816, 844, 872, 900, 913, 926, 954, 982, 1010, 1050, 1063, 1091, 1131, 1159, 1199, 1239, 1279, 1331, 1371, 1399, 1490, 1554, 1634, 1662, 1742, 1782, 1810, 1823, 1836]) (len := 192) (off := 1399) (t := 1439) (ax_d X (show cdA 350 40 = some (.tableswitch 1861 0 43 #[192, 265, 293, 321, 334, 374, 435, 484, 524, 564, 616, 656, 708, 748, 776, 816, 844, 872, 900, 913, 926, 954, 982, 1010, 1050, 1063, 1091, 1131, 1159, 1199, 1239, 1279, 1331, 1371, 1399, 1490, 1554, 1634, 1662, 1742, 1782, 1810, 1823, 1836], 192, 0, 0, 0) from rfl)) (by decide) (by decide) (by decide) (by decide) ?_
        exact lc_34 G GR SF GT X E S hL I jR jSEQ p1 p2  (by omega) (by omega) (by omega) hk
      ·
        rw [gs]
        refine w_tabIn X.1 (dflt := 1861) (lo := 0) (hi := 43) (offs := #[192, 265, 293, 321, 334, 374, 435, 484, 524, 564, 616, 656, 708, 748, 776, 816, 844, 872, 900, 913, 926, 954, 982, 1010, 1050, 1063, 1091, 1131, 1159, 1199, 1239, 1279, 1331, 1371, 1399, 1490, 1554, 1634, 1662, 1742, 1782, 1810, 1823, 1836]) (len := 192) (off := 1490) (t := 1530) (ax_d X (show cdA 350 40 = some (.tableswitch 1861 0 43 #[192, 265, 293, 321, 334, 374, 435, 484, 524, 564, 616, 656, 708, 748, 776, 816, 844, 872, 900, 913, 926, 954, 982, 1010, 1050, 1063, 1091, 1131, 1159, 1199, 1239, 1279, 1331, 1371, 1399, 1490, 1554, 1634, 1662, 1742, 1782, 1810, 1823, 1836], 192, 0, 0, 0) from rfl)) (by decide) (by decide) (by decide) (by decide) ?_
        exact lc_35 G GR SF GT X E S hL I jR jSEQ p1 p2  (by omega) (by omega) (by omega) hk
      ·
        rw [gs]
        refine w_tabIn X.1 (dflt := 1861) (lo := 0) (hi := 43) (offs := #[192, 265, 293, 321, 334, 374, 435, 484, 524, 564, 616, 656, 708, 748, 776, 816, 844, 872, 900, 913, 926, 954, 982, 1010, 1050, 1063, 1091, 1131, 1159, 1199, 1239, 1279, 1331, 1371, 1399, 1490, 1554, 1634, 1662, 1742, 1782, 1810, 1823, 1836]) (len := 192) (off := 1554) (t := 1594) (ax_d X (show cdA 350 40 = some (.tableswitch 1861 0 43 #[192, 265, 293, 321, 334, 374, 435, 484, 524, 564, 616, 656, 708, 748, 776, 816, 844, 872, 900, 913, 926, 954, 982, 1010, 1050, 1063, 1091, 1131, 1159, 1199, 1239, 1279, 1331, 1371, 1399, 1490, 1554, 1634, 1662, 1742, 1782, 1810, 1823, 1836], 192, 0, 0, 0) from rfl)) (by decide) (by decide) (by decide) (by decide) ?_
        exact lc_36 G GR SF GT X E S hL I jR jSEQ p1 p2  (by omega) (by omega) (by omega) hk
      ·
        rw [gs]
        refine w_tabIn X.1 (dflt := 1861) (lo := 0) (hi := 43) (offs := #[192, 265, 293, 321, 334, 374, 435, 484, 524, 564, 616, 656, 708, 748, 776, 816, 844, 872, 900, 913, 926, 954, 982, 1010, 1050, 1063, 1091, 1131, 1159, 1199, 1239, 1279, 1331, 1371, 1399, 1490, 1554, 1634, 1662, 1742, 1782, 1810, 1823, 1836]) (len := 192) (off := 1634) (t := 1674) (ax_d X (show cdA 350 40 = some (.tableswitch 1861 0 43 #[192, 265, 293, 321, 334, 374, 435, 484, 524, 564, 616, 656, 708, 748, 776, 816, 844, 872, 900, 913, 926, 954, 982, 1010, 1050, 1063, 1091, 1131, 1159, 1199, 1239, 1279, 1331, 1371, 1399, 1490, 1554, 1634, 1662, 1742, 1782, 1810, 1823, 1836], 192, 0, 0, 0) from rfl)) (by decide) (by decide) (by decide) (by decide) ?_
        exact lc_37 G GR SF GT X E S hL I jR jSEQ p1 p2  (by omega) (by omega) (by omega) hk
      ·
        rw [gs]
        refine w_tabIn X.1 (dflt := 1861) (lo := 0) (hi := 43) (offs := #[192, 265, 293, 321, 334, 374, 435, 484, 524, 564, 616, 656, 708, 748, 776, 816, 844, 872, 900, 913, 926, 954, 982, 1010, 1050, 1063, 1091, 1131, 1159, 1199, 1239, 1279, 1331, 1371, 1399, 1490, 1554, 1634, 1662, 1742, 1782, 1810, 1823, 1836]) (len := 192) (off := 1662) (t := 1702) (ax_d X (show cdA 350 40 = some (.tableswitch 1861 0 43 #[192, 265, 293, 321, 334, 374, 435, 484, 524, 564, 616, 656, 708, 748, 776, 816, 844, 872, 900, 913, 926, 954, 982, 1010, 1050, 1063, 1091, 1131, 1159, 1199, 1239, 1279, 1331, 1371, 1399, 1490, 1554, 1634, 1662, 1742, 1782, 1810, 1823, 1836], 192, 0, 0, 0) from rfl)) (by decide) (by decide) (by decide) (by decide) ?_
        exact lc_38 G GR SF GT X E S hL I jR jSEQ p1 p2  (by omega) (by omega) (by omega) hk
      ·
        rw [gs]
        refine w_tabIn X.1 (dflt := 1861) (lo := 0) (hi := 43) (offs := #[192, 265, 293, 321, 334, 374, 435, 484, 524, 564, 616, 656, 708, 748, 776, 816, 844, 872, 900, 913, 926, 954, 982, 1010, 1050, 1063, 1091, 1131, 1159, 1199, 1239, 1279, 1331, 1371, 1399, 1490, 1554, 1634, 1662, 1742, 1782, 1810, 1823, 1836]) (len := 192) (off := 1742) (t := 1782) (ax_d X (show cdA 350 40 = some (.tableswitch 1861 0 43 #[192, 265, 293, 321, 334, 374, 435, 484, 524, 564, 616, 656, 708, 748, 776, 816, 844, 872, 900, 913, 926, 954, 982, 1010, 1050, 1063, 1091, 1131, 1159, 1199, 1239, 1279, 1331, 1371, 1399, 1490, 1554, 1634, 1662, 1742, 1782, 1810, 1823, 1836], 192, 0, 0, 0) from rfl)) (by decide) (by decide) (by decide) (by decide) ?_
        exact lc_39 G GR SF GT X E S hL I jR jSEQ p1 p2  (by omega) (by omega) (by omega) hk
      ·
        rw [gs]
        refine w_tabIn X.1 (dflt := 1861) (lo := 0) (hi := 43) (offs := #[192, 265, 293, 321, 334, 374, 435, 484, 524, 564, 616, 656, 708, 748, 776, 816, 844, 872, 900, 913, 926, 954, 982, 1010, 1050, 1063, 1091, 1131, 1159, 1199, 1239, 1279, 1331, 1371, 1399, 1490, 1554, 1634, 1662, 1742, 1782, 1810, 1823, 1836]) (len := 192) (off := 1782) (t := 1822) (ax_d X (show cdA 350 40 = some (.tableswitch 1861 0 43 #[192, 265, 293, 321, 334, 374, 435, 484, 524, 564, 616, 656, 708, 748, 776, 816, 844, 872, 900, 913, 926, 954, 982, 1010, 1050, 1063, 1091, 1131, 1159, 1199, 1239, 1279, 1331, 1371, 1399, 1490, 1554, 1634, 1662, 1742, 1782, 1810, 1823, 1836], 192, 0, 0, 0) from rfl)) (by decide) (by decide) (by decide) (by decide) ?_
        exact lc_40 G GR SF GT X E S hL I jR jSEQ p1 p2  (by omega) (by omega) (by omega) hk
      ·
        rw [gs]
        refine w_tabIn X.1 (dflt := 1861) (lo := 0) (hi := 43) (offs := #[192, 265, 293, 321, 334, 374, 435, 484, 524, 564, 616, 656, 708, 748, 776, 816, 844, 872, 900, 913, 926, 954, 982, 1010, 1050, 1063, 1091, 1131, 1159, 1199, 1239, 1279, 1331, 1371, 1399, 1490, 1554, 1634, 1662, 1742, 1782, 1810, 1823, 1836]) (len := 192) (off := 1810) (t := 1850) (ax_d X (show cdA 350 40 = some (.tableswitch 1861 0 43 #[192, 265, 293, 321, 334, 374, 435, 484, 524, 564, 616, 656, 708, 748, 776, 816, 844, 872, 900, 913, 926, 954, 982, 1010, 1050, 1063, 1091, 1131, 1159, 1199, 1239, 1279, 1331, 1371, 1399, 1490, 1554, 1634, 1662, 1742, 1782, 1810, 1823, 1836], 192, 0, 0, 0) from rfl)) (by decide) (by decide) (by decide) (by decide) ?_
        exact lc_41 G GR SF GT X E S hL I jR jSEQ p1 p2  (by omega) (by omega) (by omega) hk
      ·
        rw [gs]
        refine w_tabIn X.1 (dflt := 1861) (lo := 0) (hi := 43) (offs := #[192, 265, 293, 321, 334, 374, 435, 484, 524, 564, 616, 656, 708, 748, 776, 816, 844, 872, 900, 913, 926, 954, 982, 1010, 1050, 1063, 1091, 1131, 1159, 1199, 1239, 1279, 1331, 1371, 1399, 1490, 1554, 1634, 1662, 1742, 1782, 1810, 1823, 1836]) (len := 192) (off := 1823) (t := 1863) (ax_d X (show cdA 350 40 = some (.tableswitch 1861 0 43 #[192, 265, 293, 321, 334, 374, 435, 484, 524, 564, 616, 656, 708, 748, 776, 816, 844, 872, 900, 913, 926, 954, 982, 1010, 1050, 1063, 1091, 1131, 1159, 1199, 1239, 1279, 1331, 1371, 1399, 1490, 1554, 1634, 1662, 1742, 1782, 1810, 1823, 1836], 192, 0, 0, 0) from rfl)) (by decide) (by decide) (by decide) (by decide) ?_
        exact lc_42 G GR SF GT X E S hL I jR jSEQ p1 p2  (by omega) (by omega) (by omega) hk
      ·
        rw [gs]
        refine w_tabIn X.1 (dflt := 1861) (lo := 0) (hi := 43) (offs := #[192, 265, 293, 321, 334, 374, 435, 484, 524, 564, 616, 656, 708, 748, 776, 816, 844, 872, 900, 913, 926, 954, 982, 1010, 1050, 1063, 1091, 1131, 1159, 1199, 1239, 1279, 1331, 1371, 1399, 1490, 1554, 1634, 1662, 1742, 1782, 1810, 1823, 1836]) (len := 192) (off := 1836) (t := 1876) (ax_d X (show cdA 350 40 = some (.tableswitch 1861 0 43 #[192, 265, 293, 321, 334, 374, 435, 484, 524, 564, 616, 656, 708, 748, 776, 816, 844, 872, 900, 913, 926, 954, 982, 1010, 1050, 1063, 1091, 1131, 1159, 1199, 1239, 1279, 1331, 1371, 1399, 1490, 1554, 1634, 1662, 1742, 1782, 1810, 1823, 1836], 192, 0, 0, 0) from rfl)) (by decide) (by decide) (by decide) (by decide) ?_
        exact lc_43 G GR SF GT X E S hL I jR jSEQ p1 p2  (by omega) (by omega) (by omega) hk
      ·
        exact w_tabOut X.1 (dflt := 1861) (lo := 0) (hi := 43) (offs := #[192, 265, 293, 321, 334, 374, 435, 484, 524, 564, 616, 656, 708, 748, 776, 816, 844, 872, 900, 913, 926, 954, 982, 1010, 1050, 1063, 1091, 1131, 1159, 1199, 1239, 1279, 1331, 1371, 1399, 1490, 1554, 1634, 1662, 1742, 1782, 1810, 1823, 1836]) (len := 192) (t := 1901) (ax_d X (show cdA 350 40 = some (.tableswitch 1861 0 43 #[192, 265, 293, 321, 334, 374, 435, 484, 524, 564, 616, 656, 708, 748, 776, 816, 844, 872, 900, 913, 926, 954, 982, 1010, 1050, 1063, 1091, 1131, 1159, 1199, 1239, 1279, 1331, 1371, 1399, 1490, 1554, 1634, 1662, 1742, 1782, 1810, 1823, 1836], 192, 0, 0, 0) from rfl)) (by rw [zi ⟨by omega, by omega⟩]; omega) (by decide) (w_widen (ce' := 518 + 29 * m + 29) (sl' := 23524 + 222 * m + 222) (by omega) (by omega) (hk A s I jR jSEQ p1 p2 ))
end M88
