theorem oq_5bf2829b : 8 + 1 ≤ 2048 := by omega
theorem oq_e23742ae : 8 + (6 + 11) + 147 ≤ 84000 := by omega
theorem oq_4d34cb53 : 6 + 1 ≤ 2048 := by omega
theorem oq_e10754c2 : 8 + (8 + 11) + 100 ≤ 84000 := by omega
theorem oq_f34933ba {a0 a1 a2 : Int} (h0 : a0 = a1) (h1 : a1 = a2) (h2 : a2 = 1) (h3 : 1 ≤ a2) : a0 = 1 := by omega
theorem oq_5bcdc35f {a0 a1 a2 a3 a4 a5 : Int} (h0 : a0 = a1) (h1 : a2 = a3) (h2 : a1 = a4) (h3 : a3 = a5) (h4 : a5 = a4) : a2 = a0 := by omega
theorem oq_5655e407 : 10 + 1 ≤ 2048 := by omega
theorem oq_0b5c09a5 : 8 + (3 + 11) + 191 ≤ 84000 := by omega
theorem oq_0ed3bd18 : 61 + 1 ≤ 2048 := by omega
theorem oq_735d5381 : 8 + (3 + 11) + 2660 ≤ 84000 := by omega
theorem oq_a32dccc4 : 8 + (1 + 11) + 100 ≤ 84000 := by omega
theorem oq_4e6106eb : 7 + 1 ≤ 2048 := by omega
theorem oq_38d194b9 : 8 + (3 + 11) + 122 ≤ 84000 := by omega
theorem oq_380e4f97 : 8 + (6 + 11) + 122 ≤ 84000 := by omega
theorem oq_ebbf79c1 : 8 + (4 + 11) + 122 ≤ 84000 := by omega
theorem oq_263907be : 8 + (3 + 11) + 146 ≤ 84000 := by omega
theorem oq_2596b3cb : 37 + 1 ≤ 2048 := by omega
theorem oq_93887b04 : 8 + (5 + 11) + 1578 ≤ 84000 := by omega
theorem oq_dead3895 : 39 + 1 ≤ 2048 := by omega
theorem oq_16841511 : 8 + (5 + 11) + 1622 ≤ 84000 := by omega
theorem oq_1d601463 : 9 + 1 ≤ 2048 := by omega
theorem oq_485672f1 : 8 + (2 + 11) + 171 ≤ 84000 := by omega
theorem oq_da2b07c8 : 8 + (6 + 11) + 171 ≤ 84000 := by omega
theorem oq_f75bb075 : 8 + (7 + 11) + 122 ≤ 84000 := by omega
theorem oq_dd1cdbfa : 11 + 1 ≤ 2048 := by omega
theorem oq_c1432001 : 8 + (6 + 11) + 212 ≤ 84000 := by omega
theorem oq_b95bb2bf : 8 + (2 + 11) + 224 ≤ 84000 := by omega
theorem oq_2450e786 : 8 + (2 + 11) + 1622 ≤ 84000 := by omega
theorem oq_f781d9f4 : 12 + 1 ≤ 2048 := by omega
theorem oq_d9c24595 : 8 + (1 + 11) + 237 ≤ 84000 := by omega
theorem oq_2c2f0271 : 41 + 1 ≤ 2048 := by omega
theorem oq_260410fd : 8 + (1 + 11) + 1663 ≤ 84000 := by omega
theorem oq_38aede7b : 42 + 1 ≤ 2048 := by omega
theorem oq_b5fdcedd : 8 + (2 + 11) + 1687 ≤ 84000 := by omega
theorem oq_e190c71b : 8 + (3 + 11) + 1687 ≤ 84000 := by omega
theorem oq_a3fac05c : 38 + 1 ≤ 2048 := by omega
theorem oq_e81fc71d : 8 + (3 + 11) + 1601 ≤ 84000 := by omega
theorem oq_8731b8c0 : 8 + (2 + 11) + 100 ≤ 84000 := by omega
theorem oq_3eb7c1bb {a0 a1 a2 : Int} (h0 : a0 = a1) (h1 : 0 ≤ a2) (h2 : a1 = 0) (h3 : a2 = 0) (h4 : 0 ≤ a1) : a0 = a2 := by omega
theorem oq_f09e007f : 8 + (2 + 11) + 122 ≤ 84000 := by omega
theorem oq_03e28196 : 62 + 1 ≤ 2048 := by omega
theorem oq_1f8b0a4c : 8 + (3 + 11) + 2686 ≤ 84000 := by omega
theorem oq_e8f78630 {a0 a1 a2 : Int} (h0 : 1 ≤ a0) (h1 : (a1 = 1 → a0 = 1)) (h2 : a1 = a2) (h3 : 1 ≤ a2) (h4 : a2 = 1) : a0 = 1 := by omega
theorem oq_5cbe2cb6 : 64 + 1 ≤ 2048 := by omega
theorem oq_276d7037 : 8 + (6 + 11) + 2742 ≤ 84000 := by omega
theorem oq_31d93303 : 8 + (4 + 11) + 2742 ≤ 84000 := by omega
theorem oq_151ba25b : 8 + (3 + 11) + 2742 ≤ 84000 := by omega
theorem oq_c67cc45d : 73 + 1 ≤ 2048 := by omega
theorem oq_f40e0be7 : 8 + (7 + 11) + 3227 ≤ 84000 := by omega
theorem oq_f8649f31 : 8 + (6 + 11) + 189 ≤ 84000 := by omega
theorem oq_8fd475f0 : 8 + (7 + 11) + 145 ≤ 84000 := by omega
theorem oq_d572abc1 : 8 + (10 + 11) + 1578 ≤ 84000 := by omega
theorem oq_b102b2ee : 8 + (6 + 11) + 1663 ≤ 84000 := by omega
theorem oq_24286ecc : 8 + (4 + 11) + 123 ≤ 84000 := by omega
theorem oq_23aa4b49 : 8 + (1 + 11) + 120 ≤ 84000 := by omega
theorem oq_6fd3db4b : 8 + (1 + 11) + 147 ≤ 84000 := by omega
theorem oq_ca72eefc : 8 + (2 + 11) + 143 ≤ 84000 := by omega
/-! The law's loop: a call of class and model each round -/
/-- the script's int at i -/
def sc (xs : Nat → Int32) (i : Int) : Int := (xs i.toNat).toInt
theorem sc_rng {xs : Nat → Int32} {i : Int} : rng (sc xs i) := rng_to _
/-- the script, as the law's activation sees it -/
def SX (k : kx_T) (b L : Nat) (xs : Nat → Int32) : Prop := va_X b L xs (kS k) (kS k).heap ∧ b < (kS k).heap.size ∧ ¬ kF k b
section ZS
variable {k : kx_T} {mn pc : Nat} {dT : Nat → ClassId} {lv : List (Nat × Value)} {st : List Value} {ws : va_W} {ce sl a b0 b L : Nat} {z : Int} {xs : Nat → Int32}
theorem sx_in {i c : Int} {L : Nat} (h : 0 ≤ i ∧ i + 6 ≤ (L : Int)) (k : 0 ≤ c ∧ c < 6) : 0 ≤ i + c ∧ i + c < (L : Int) := by omega
theorem rmo_1 {x a b n : Nat} (h : x + b ≤ n) (k : a ≤ b) : x + a ≤ n := by omega
theorem rmo_2 {x a c b n : Nat} (h : x + b ≤ n) (k : c + a ≤ b) : x + c + a ≤ n := by omega
theorem z_sld (X : AX k mn dT) (S : SX k b L xs) (hL : L ≤ 3072) {i : Int} (h : cdA mn pc = some (.iaload, 1, a, b0, z)) (hi : 0 ≤ i ∧ i < (L : Int)) (g : WS k (pc + 1) lv (.int (Int32.ofInt (sc xs i)) :: st) ws ce sl) : WS k pc lv (.int (Int32.ofInt i) :: .ref b :: st) ws ce sl := by
  have e : xs (Int32.ofInt i).toNatClampNeg = Int32.ofInt (sc xs i) := by
    rw [on_of hi.1, on_cl (by omega)]
    exact (ofi_to _).symm
  rw [on_of hi.1] at e ⊢
  refine w_sld X.1 S.1 S.2.1 S.2.2 (on_in (by omega) (by omega)) (ax_d X h) ?_
  rw [e]
  exact g
theorem z_slen (X : AX k mn dT) (S : SX k b L xs) (hL : L ≤ 3072) (h : cdA mn pc = some (.arraylength, 1, a, b0, z)) (g : WS k (pc + 1) lv (.int (Int32.ofInt (L : Int)) :: st) ws ce sl) : WS k pc lv (.ref b :: st) ws ce sl := by
  refine w_slen X.1 S.1 S.2.1 S.2.2 (ax_d X h) ?_
  have e : Int32.ofNat L = Int32.ofInt (L : Int) := by
    have h9 := on_of (z := (L : Int)) (by omega)
    have h8 : ((L : Int)).toNat = L := by omega
    rw [h8] at h9
    exact h9.symm
  rw [e]
  exact g
theorem z_lO {A : Nat → Nat} {s : PS} (X : AX k mn dT) (h : cdA mn pc = some (.laload, 1, 0, 0, 0)) (g : WS k (pc + 1) lv (.long (gD s 460 0) :: st) (Wd A dT s) ce sl) : WS k pc lv (.int (Int32.ofInt 0) :: .ref (A 517) :: st) (Wd A dT s) ce sl :=
  s_lald X 517 (n := 1) (a := 460) (i := 0) h (by decide) rfl (by decide) (by decide) g
theorem lcmp_0 {x y : Int64} : lg_cmp x y = 0 ↔ x = y := lg_cmp_eq x y
theorem z_lc {s : PS} {b : Int} (hb : rng b) (g : ∀ c : Int, rng c → ((c = 0 ∧ iO s = b) ∨ (c ≠ 0 ∧ iO s ≠ b)) → WS k pc lv (.int (Int32.ofInt c) :: st) ws ce sl) : WS k pc lv (.int (lg_cmp (gD s 460 0) (Int32.ofInt b).toInt64) :: st) ws ce sl := by
  have h9 := g (lg_cmp (gD s 460 0) (Int32.ofInt b).toInt64).toInt (rng_to _)
  rw [ofi_to] at h9
  refine h9 ?_
  have e1 : (Int32.ofInt b).toInt64.toInt = b := by rw [Int32.toInt_toInt64, zi hb]
  by_cases q : gD s 460 0 = (Int32.ofInt b).toInt64
  · refine Or.inl ⟨by rw [lcmp_0.mpr q]; rfl, ?_⟩
    show (gD s 460 0).toInt = b
    rw [q, e1]
  · refine Or.inr ⟨fun z => q (lcmp_0.mp (Int32.toInt_inj.mp (show _ = (0 : Int32).toInt from z))), fun z => q (Int64.toInt_inj.mp ?_)⟩
    rw [e1]
    exact z
end ZS
theorem REQ_fm {L M : List Nat} {s t : PS} (F : Fm L M s t) (h : 28 ∉ L ∧ 39 ∉ M ∧ 234 ∉ M) (r : REQ 39 234 28 s) : REQ 39 234 28 t := req_sam r (sam_fm F h.2.1) (sam_fm F h.2.2) (fm_i F h.1)
section M88
variable {l : Launch} {s0 : State} {D : va_G} {tys : List (ClassId × FieldType)} {a0 : Array Value} {A : Nat → Nat} {dT : Nat → ClassId} {s : PS}
theorem lc_0 (G : GX l s0 D tys a0 dT) (GR : RS0 s0) (SF : SF0 s0) (GT : TXs0 s0) {k : kx_T} (X : AX k 350 dT) (E : kL k = l ∧ kS0 k = s0 ∧ kD k = D ∧ kR k = room_1) {q1 L : Nat} {xs : Nat → Int32} (S : SX k q1 L xs) (hL : L ≤ 3072) (I : Bd s) (jR : RLx s) (jREQ : REQ 39 234 28 s) (p1 : iI s 89 = 1) (p2 : iI s 12 ≤ 8) (p3 : iI s 28 = iI s 97) {i : Int} (hi : 0 ≤ i ∧ i + 6 ≤ (L : Int)) {ce sl : Nat} (hce : ce + 29 ≤ 601024) (hsl : sl + 222 ≤ 7293034) (hk : ∀ (A : Nat → Nat) (t : PS), Bd t → RLx t → REQ 39 234 28 t → iI t 89 = 1 → iI t 12 ≤ 8 → iI t 28 = iI t 97 → WS k 1866 [(0, .ref q1), (1, .ref (A 0)), (2, .ref (A 179)), (3, .ref (A 517)), (4, .int (Int32.ofInt i))] [] (Wd A dT t) (ce + 29) (sl + 222)) : WS k 232 [(0, .ref q1), (1, .ref (A 0)), (2, .ref (A 179)), (3, .ref (A 517)), (4, .int (Int32.ofInt i))] [] (Wd A dT s) ce sl := by
  have F : Fm [0, 73, 74] [0, 157] s s := fm_rf _ _ s
  have b1 := bi_28 I
  have b2 := bi_97 I
  have b3 := bi_12 I
  have b4 := bi_89 I
  refine z_aload_n X (x := A 0) rfl (List.Mem.tail _ (List.Mem.head _)) (z_aload_n X (x := q1) rfl (List.Mem.head _) (z_load X (x := i) rfl (List.Mem.tail _ (List.Mem.tail _ (List.Mem.tail _ (List.Mem.tail _ (List.Mem.head _))))) (z_const X rfl (z_add X rfl (z_sld X S hL rfl (show 0 ≤ (i + 1) ∧ (i + 1) < (L : Int) by first | exact sx_in hi (by decide) | omega) ?_)))))
  have sr5 : rng (sc xs (i + 1)) := sc_rng
  refine z_aload_n X (x := q1) rfl (List.Mem.head _) (z_load X (x := i) rfl (List.Mem.tail _ (List.Mem.tail _ (List.Mem.tail _ (List.Mem.tail _ (List.Mem.head _))))) (z_const X rfl (z_add X rfl (z_sld X S hL rfl (show 0 ≤ (i + 2) ∧ (i + 2) < (L : Int) by first | exact sx_in hi (by decide) | omega) ?_))))
  have sr6 : rng (sc xs (i + 2)) := sc_rng
  refine z_aload_n X (x := q1) rfl (List.Mem.head _) (z_load X (x := i) rfl (List.Mem.tail _ (List.Mem.tail _ (List.Mem.tail _ (List.Mem.tail _ (List.Mem.head _))))) (z_const X rfl (z_add X rfl (z_sld X S hL rfl (show 0 ≤ (i + 3) ∧ (i + 3) < (L : Int) by first | exact sx_in hi (by decide) | omega) ?_))))
  have sr7 : rng (sc xs (i + 3)) := sc_rng
  refine z_aload_n X (x := q1) rfl (List.Mem.head _) (z_load X (x := i) rfl (List.Mem.tail _ (List.Mem.tail _ (List.Mem.tail _ (List.Mem.tail _ (List.Mem.head _))))) (z_const X rfl (z_add X rfl (z_sld X S hL rfl (show 0 ≤ (i + 4) ∧ (i + 4) < (L : Int) by first | exact sx_in hi (by decide) | omega) ?_))))
  have sr8 : rng (sc xs (i + 4)) := sc_rng
  refine z_aload_n X (x := q1) rfl (List.Mem.head _) (z_load X (x := i) rfl (List.Mem.tail _ (List.Mem.tail _ (List.Mem.tail _ (List.Mem.tail _ (List.Mem.head _))))) (z_const X rfl (z_add X rfl (z_sld X S hL rfl (show 0 ≤ (i + 5) ∧ (i + 5) < (L : Int) by first | exact sx_in hi (by decide) | omega) ?_))))
  have sr9 : rng (sc xs (i + 5)) := sc_rng
  refine z_callV X 0 (rm := rmN 135) (As := [.int (Int32.ofInt (sc xs (i + 1))), .int (Int32.ofInt (sc xs (i + 2))), .int (Int32.ofInt (sc xs (i + 3))), .int (Int32.ofInt (sc xs (i + 4))), .int (Int32.ofInt (sc xs (i + 5)))]) (st := []) rfl rfl (by decide) rfl (by rw [E.1, E.2.1, E.2.2.1]; exact cs_feed G I (by first | exact ⟨sr5.1, sr5.2⟩ | omega) (by first | exact ⟨sr6.1, sr6.2⟩ | omega) (by first | exact ⟨sr7.1, sr7.2⟩ | omega) (by first | exact ⟨sr8.1, sr8.2⟩ | omega) (by first | exact ⟨sr9.1, sr9.2⟩ | omega)) ⟨by rw [E.2.2.2]; exact (show 8 + 1 ≤ 2048 from oq_5bf2829b), by rw [E.2.2.2]; exact (show 8 + (6 + 11) + 147 ≤ 84000 from oq_e23742ae), by rw [E.2.2.2]; exact (show ce + 0 ≤ 601024 by omega), by rw [E.2.2.2]; exact (show sl + 0 ≤ 7293034 by omega)⟩ (Nat.le_of_ble_eq_true rfl) (fun vv s10 hq => ?_) (fun ee s10 hq => ?_)
  rotate_left
  · obtain ⟨Is10, Fs10, e11, hv, hrs10, hps10⟩ := hq; cases hv
  obtain ⟨Is10, Fs10, e11, hv, hrs10, hps10⟩ := hq
  cases hv
  have Gs10 := fm_tq F Fs10 rfl rfl
  have JRLx_s10 : RLx s10 := RLx_fm Fs10 (by decide) jR
  have JREQ_s10 : REQ 39 234 28 s10 := REQ_fm Fs10 (by decide) jREQ
  have ws10_28 : iI s10 28 = iI s 28 := fm_iq Fs10 rfl
  have ws10_97 : iI s10 97 = iI s 97 := fm_iq Fs10 rfl
  have ws10_12 : iI s10 12 = iI s 12 := fm_iq Fs10 rfl
  have ws10_89 : iI s10 89 = iI s 89 := fm_iq Fs10 rfl
  have wos10 : iO s10 = iO s := fm_o Fs10 (by decide)
  show WS k 266 [(0, .ref q1), (1, .ref (A 0)), (2, .ref (A 179)), (3, .ref (A 517)), (4, .int (Int32.ofInt i))] [.int (Int32.ofInt e11)] (Wd A dT s10) ce sl
  refine w_pop X.1 (ax_d X (show cdA 350 266 = some (.pop, 1, 0, 0, 0) from rfl)) rfl (z_aload_n X (x := A 179) rfl (List.Mem.tail _ (List.Mem.tail _ (List.Mem.head _))) (z_aload_n X (x := q1) rfl (List.Mem.head _) (z_load X (x := i) rfl (List.Mem.tail _ (List.Mem.tail _ (List.Mem.tail _ (List.Mem.tail _ (List.Mem.head _))))) (z_const X rfl (z_add X rfl (z_sld X S hL rfl (show 0 ≤ (i + 1) ∧ (i + 1) < (L : Int) by first | exact sx_in hi (by decide) | omega) ?_))))))
  have sr12 : rng (sc xs (i + 1)) := sc_rng
  refine z_aload_n X (x := q1) rfl (List.Mem.head _) (z_load X (x := i) rfl (List.Mem.tail _ (List.Mem.tail _ (List.Mem.tail _ (List.Mem.tail _ (List.Mem.head _))))) (z_const X rfl (z_add X rfl (z_sld X S hL rfl (show 0 ≤ (i + 2) ∧ (i + 2) < (L : Int) by first | exact sx_in hi (by decide) | omega) ?_))))
  have sr13 : rng (sc xs (i + 2)) := sc_rng
  refine z_aload_n X (x := q1) rfl (List.Mem.head _) (z_load X (x := i) rfl (List.Mem.tail _ (List.Mem.tail _ (List.Mem.tail _ (List.Mem.tail _ (List.Mem.head _))))) (z_const X rfl (z_add X rfl (z_sld X S hL rfl (show 0 ≤ (i + 3) ∧ (i + 3) < (L : Int) by first | exact sx_in hi (by decide) | omega) ?_))))
  have sr14 : rng (sc xs (i + 3)) := sc_rng
  refine z_aload_n X (x := q1) rfl (List.Mem.head _) (z_load X (x := i) rfl (List.Mem.tail _ (List.Mem.tail _ (List.Mem.tail _ (List.Mem.tail _ (List.Mem.head _))))) (z_const X rfl (z_add X rfl (z_sld X S hL rfl (show 0 ≤ (i + 4) ∧ (i + 4) < (L : Int) by first | exact sx_in hi (by decide) | omega) ?_))))
  have sr15 : rng (sc xs (i + 4)) := sc_rng
  refine z_aload_n X (x := q1) rfl (List.Mem.head _) (z_load X (x := i) rfl (List.Mem.tail _ (List.Mem.tail _ (List.Mem.tail _ (List.Mem.tail _ (List.Mem.head _))))) (z_const X rfl (z_add X rfl (z_sld X S hL rfl (show 0 ≤ (i + 5) ∧ (i + 5) < (L : Int) by first | exact sx_in hi (by decide) | omega) ?_))))
  have sr16 : rng (sc xs (i + 5)) := sc_rng
  refine z_callV X 179 (rm := rmN 191) (As := [.int (Int32.ofInt (sc xs (i + 1))), .int (Int32.ofInt (sc xs (i + 2))), .int (Int32.ofInt (sc xs (i + 3))), .int (Int32.ofInt (sc xs (i + 4))), .int (Int32.ofInt (sc xs (i + 5)))]) (st := []) rfl rfl (by decide) rfl (by rw [E.1, E.2.1, E.2.2.1]; exact k_feed G Is10 (by first | exact ⟨sr12.1, sr12.2⟩ | omega) (by first | exact ⟨sr13.1, sr13.2⟩ | omega) (by first | exact ⟨sr14.1, sr14.2⟩ | omega) (by first | exact ⟨sr15.1, sr15.2⟩ | omega) (by first | exact ⟨sr16.1, sr16.2⟩ | omega)) ⟨by rw [E.2.2.2]; exact (show 6 + 1 ≤ 2048 from oq_4d34cb53), by rw [E.2.2.2]; exact (show 8 + (8 + 11) + 100 ≤ 84000 from oq_e10754c2), by rw [E.2.2.2]; exact (show ce + 0 ≤ 601024 by first | (clear hps10; omega) | omega), by rw [E.2.2.2]; exact (show sl + 0 ≤ 7293034 by first | (clear hps10; omega) | omega)⟩ (Nat.le_of_ble_eq_true rfl) (fun vv s17 hq => ?_) (fun ee s17 hq => ?_)
  rotate_left
  · obtain ⟨Is17, Fs17, e18, hv, hrs17, hps17⟩ := hq; cases hv
  obtain ⟨Is17, Fs17, e18, hv, hrs17, hps17⟩ := hq
  cases hv
  have Gs17 := fm_tq Gs10 Fs17 rfl rfl
  have JRLx_s17 : RLx s17 := RLx_fm Fs17 (by decide) JRLx_s10
  have JREQ_s17 : REQ 39 234 28 s17 := REQ_fm Fs17 (by decide) JREQ_s10
  have ws17_28 : iI s17 28 = iI s10 28 := fm_iq Fs17 rfl
  have ws17_97 : iI s17 97 = iI s10 97 := fm_iq Fs17 rfl
  have ws17_12 : iI s17 12 = iI s10 12 := fm_iq Fs17 rfl
  have ws17_89 : iI s17 89 = iI s10 89 := fm_iq Fs17 rfl
  have wos17 : iO s17 = iO s10 := fm_o Fs17 (by decide)
  show WS k 301 [(0, .ref q1), (1, .ref (A 0)), (2, .ref (A 179)), (3, .ref (A 517)), (4, .int (Int32.ofInt i))] [.int (Int32.ofInt e18)] (Wd A dT s17) ce sl
  refine w_pop X.1 (ax_d X (show cdA 350 301 = some (.pop, 1, 0, 0, 0) from rfl)) rfl (z_goto X (t := 1866) rfl rfl (w_widen (ce' := ce + 29) (sl' := sl + 222) (by first | exact Nat.le_add_right _ _ | exact Nat.add_le_add_left (by decide) _ | omega) (by first | exact Nat.le_add_right _ _ | exact Nat.add_le_add_left (by decide) _ | omega) ?_))
  exact WS_lv (lv := [(0, .ref q1), (1, .ref (A 0)), (2, .ref (A 179)), (3, .ref (A 517)), (4, .int (Int32.ofInt i))]) (List.forall_mem_cons.mpr ⟨(List.Mem.head _), (List.forall_mem_cons.mpr ⟨(List.Mem.tail _ (List.Mem.head _)), (List.forall_mem_cons.mpr ⟨(List.Mem.tail _ (List.Mem.tail _ (List.Mem.head _))), (List.forall_mem_cons.mpr ⟨(List.Mem.tail _ (List.Mem.tail _ (List.Mem.tail _ (List.Mem.head _)))), (List.forall_mem_cons.mpr ⟨(List.Mem.tail _ (List.Mem.tail _ (List.Mem.tail _ (List.Mem.tail _ (List.Mem.head _))))), (fun q h => absurd h List.not_mem_nil)⟩)⟩)⟩)⟩)⟩) (hk A _ Is17 JRLx_s17 JREQ_s17 (by first | exact oq_f34933ba ws17_89 ws10_89 p1 b4.1 | omega) (by first | exact oq_d7ce4408 ws17_12 ws10_12 p2 | omega) (by first | exact oq_5bcdc35f ws17_97 ws17_28 ws10_97 ws10_28 p3 | omega))
theorem lc_1 (G : GX l s0 D tys a0 dT) (GR : RS0 s0) (SF : SF0 s0) (GT : TXs0 s0) {k : kx_T} (X : AX k 350 dT) (E : kL k = l ∧ kS0 k = s0 ∧ kD k = D ∧ kR k = room_1) {q1 L : Nat} {xs : Nat → Int32} (S : SX k q1 L xs) (hL : L ≤ 3072) (I : Bd s) (jR : RLx s) (jREQ : REQ 39 234 28 s) (p1 : iI s 89 = 1) (p2 : iI s 12 ≤ 8) (p3 : iI s 28 = iI s 97) {i : Int} (hi : 0 ≤ i ∧ i + 6 ≤ (L : Int)) {ce sl : Nat} (hce : ce + 29 ≤ 601024) (hsl : sl + 222 ≤ 7293034) (hk : ∀ (A : Nat → Nat) (t : PS), Bd t → RLx t → REQ 39 234 28 t → iI t 89 = 1 → iI t 12 ≤ 8 → iI t 28 = iI t 97 → WS k 1866 [(0, .ref q1), (1, .ref (A 0)), (2, .ref (A 179)), (3, .ref (A 517)), (4, .int (Int32.ofInt i))] [] (Wd A dT t) (ce + 29) (sl + 222)) : WS k 305 [(0, .ref q1), (1, .ref (A 0)), (2, .ref (A 179)), (3, .ref (A 517)), (4, .int (Int32.ofInt i))] [] (Wd A dT s) ce sl := by
  have F : Fm [11, 9, 10, 2, 4, 6, 5, 1, 3, 0, 7, 8, 73, 74, 76, 90, 91, 77, 75, 78, 79, 80, 81] [15, 1, 2, 6, 1003, 1004, 1005, 1007, 1460, 165, 162, 166, 167, 168, 169, 170, 171, 172, 173, 174, 175, 176, 177, 178, 179, 180, 181, 182, 183, 184, 185, 186, 187, 188, 189] s s := fm_rf _ _ s
  have b1 := bi_28 I
  have b2 := bi_97 I
  have b3 := bi_12 I
  have b4 := bi_89 I
  refine z_aload_n X (x := A 0) rfl (List.Mem.tail _ (List.Mem.head _)) (z_aload_n X (x := q1) rfl (List.Mem.head _) (z_load X (x := i) rfl (List.Mem.tail _ (List.Mem.tail _ (List.Mem.tail _ (List.Mem.tail _ (List.Mem.head _))))) (z_const X rfl (z_add X rfl (z_sld X S hL rfl (show 0 ≤ (i + 1) ∧ (i + 1) < (L : Int) by first | exact sx_in hi (by decide) | omega) ?_)))))
  have sr5 : rng (sc xs (i + 1)) := sc_rng
  refine z_aload_n X (x := A 517) rfl (List.Mem.tail _ (List.Mem.tail _ (List.Mem.tail _ (List.Mem.head _)))) (z_callL X (rm := rmN 314) (As := [.ref (A 0), .int (Int32.ofInt (sc xs (i + 1))), .ref (A 517)]) (st := []) rfl (by decide) rfl (by rw [E.1, E.2.1, E.2.2.1]; exact lw_stream G I (by omega)) ⟨by rw [E.2.2.2]; exact (show 11 + 1 ≤ 2048 by decide), by rw [E.2.2.2]; exact (show 8 + (4 + 11) + 213 ≤ 84000 by decide), by rw [E.2.2.2]; exact (show ce + 1 ≤ 601024 by first | exact rmo_1 hce (by decide) | exact rmo_2 hce (by decide) | omega), by rw [E.2.2.2]; exact (show sl + 6 ≤ 7293034 by first | exact rmo_1 hsl (by decide) | exact rmo_2 hsl (by decide) | omega)⟩ (Nat.le_of_ble_eq_true rfl) (fun vv A s6 hA2 hq => ?_) (fun ee A s6 hA2 hq => ?_))
  rotate_left
  · obtain ⟨Is6, Fs6, e7, hv, hrs6, hps6⟩ := hq; cases hv
  obtain ⟨Is6, Fs6, e7, hv, hrs6, hps6⟩ := hq
  cases hv
  rw [← hA2 0 (by decide)]
  rw [← hA2 179 (by decide)]
  rw [← hA2 517 (by decide)]
  have Gs6 := fm_tq F Fs6 rfl rfl
  have JRLx_s6 : RLx s6 := RLx_fm Fs6 (by decide) jR
  have JREQ_s6 : REQ 39 234 28 s6 := REQ_fm Fs6 (by decide) jREQ
  have ws6_28 : iI s6 28 = iI s 28 := fm_iq Fs6 rfl
  have ws6_97 : iI s6 97 = iI s 97 := fm_iq Fs6 rfl
  have ws6_12 : iI s6 12 = iI s 12 := fm_iq Fs6 rfl
  have ws6_89 : iI s6 89 = iI s 89 := fm_iq Fs6 rfl
  show WS k 316 [(0, .ref q1), (1, .ref (A 0)), (2, .ref (A 179)), (3, .ref (A 517)), (4, .int (Int32.ofInt i))] [.int (Int32.ofInt e7)] (Wd A dT s6) (ce + 1) (sl + 6)
  refine z_store X (lv' := [(5, .int (Int32.ofInt e7)), (0, .ref q1), (1, .ref (A 0)), (2, .ref (A 179)), (3, .ref (A 517)), (4, .int (Int32.ofInt i))]) rfl (by decide) (fun _ h => h) (z_aload_n X (x := A 179) rfl (List.Mem.tail _ (List.Mem.tail _ (List.Mem.tail _ (List.Mem.head _)))) (z_aload_n X (x := q1) rfl (List.Mem.tail _ (List.Mem.head _)) (z_load X (x := i) rfl (List.Mem.tail _ (List.Mem.tail _ (List.Mem.tail _ (List.Mem.tail _ (List.Mem.tail _ (List.Mem.head _)))))) (z_const X rfl (z_add X rfl (z_sld X S hL rfl (show 0 ≤ (i + 1) ∧ (i + 1) < (L : Int) by first | exact sx_in hi (by decide) | omega) ?_))))))
  have sr8 : rng (sc xs (i + 1)) := sc_rng
  refine z_callV X 179 (rm := rmN 200) (As := [.int (Int32.ofInt (sc xs (i + 1)))]) (st := []) rfl rfl (by decide) rfl (by rw [E.1, E.2.1, E.2.2.1]; exact k_stream G Is6 JRLx_s6 (by first | exact ⟨sr8.1, sr8.2⟩ | omega)) ⟨by rw [E.2.2.2]; exact (show 10 + 1 ≤ 2048 from oq_5655e407), by rw [E.2.2.2]; exact (show 8 + (3 + 11) + 191 ≤ 84000 from oq_0b5c09a5), by rw [E.2.2.2]; exact (show (ce + 1) + 0 ≤ 601024 by first | (clear hps6; omega) | omega), by rw [E.2.2.2]; exact (show (sl + 6) + 0 ≤ 7293034 by first | (clear hps6; omega) | omega)⟩ (Nat.le_of_ble_eq_true rfl) (fun vv s9 hq => ?_) (fun ee s9 hq => ?_)
  rotate_left
  · obtain ⟨Is9, Fs9, JRLx_s9, e10, hv, hrs9, hps9⟩ := hq; cases hv
  obtain ⟨Is9, Fs9, JRLx_s9, e10, hv, hrs9, hps9⟩ := hq
  cases hv
  have Gs9 := fm_tq Gs6 Fs9 rfl rfl
  have JREQ_s9 : REQ 39 234 28 s9 := REQ_fm Fs9 (by decide) JREQ_s6
  have ws9_28 : iI s9 28 = iI s6 28 := fm_iq Fs9 rfl
  have ws9_97 : iI s9 97 = iI s6 97 := fm_iq Fs9 rfl
  have ws9_12 : iI s9 12 = iI s6 12 := fm_iq Fs9 rfl
  have ws9_89 : iI s9 89 = iI s6 89 := fm_iq Fs9 rfl
  have wos9 : iO s9 = iO s6 := fm_o Fs9 (by decide)
  show WS k 328 [(5, .int (Int32.ofInt e7)), (0, .ref q1), (1, .ref (A 0)), (2, .ref (A 179)), (3, .ref (A 517)), (4, .int (Int32.ofInt i))] [.int (Int32.ofInt e10)] (Wd A dT s9) (ce + 1) (sl + 6)
  refine z_store X (lv' := [(6, .int (Int32.ofInt e10)), (5, .int (Int32.ofInt e7)), (0, .ref q1), (1, .ref (A 0)), (2, .ref (A 179)), (3, .ref (A 517)), (4, .int (Int32.ofInt i))]) rfl (by decide) (fun _ h => h) (z_goto X (t := 1866) rfl rfl (w_widen (ce' := ce + 29) (sl' := sl + 222) (by first | exact Nat.le_add_right _ _ | exact Nat.add_le_add_left (by decide) _ | omega) (by first | exact Nat.le_add_right _ _ | exact Nat.add_le_add_left (by decide) _ | omega) ?_))
  exact WS_lv (lv := [(0, .ref q1), (1, .ref (A 0)), (2, .ref (A 179)), (3, .ref (A 517)), (4, .int (Int32.ofInt i))]) (List.forall_mem_cons.mpr ⟨(List.Mem.tail _ (List.Mem.tail _ (List.Mem.head _))), (List.forall_mem_cons.mpr ⟨(List.Mem.tail _ (List.Mem.tail _ (List.Mem.tail _ (List.Mem.head _)))), (List.forall_mem_cons.mpr ⟨(List.Mem.tail _ (List.Mem.tail _ (List.Mem.tail _ (List.Mem.tail _ (List.Mem.head _))))), (List.forall_mem_cons.mpr ⟨(List.Mem.tail _ (List.Mem.tail _ (List.Mem.tail _ (List.Mem.tail _ (List.Mem.tail _ (List.Mem.head _)))))), (List.forall_mem_cons.mpr ⟨(List.Mem.tail _ (List.Mem.tail _ (List.Mem.tail _ (List.Mem.tail _ (List.Mem.tail _ (List.Mem.tail _ (List.Mem.head _))))))), (fun q h => absurd h List.not_mem_nil)⟩)⟩)⟩)⟩)⟩) (hk A _ Is9 JRLx_s9 JREQ_s9 (by first | exact oq_f34933ba ws9_89 ws6_89 p1 b4.1 | omega) (by first | exact oq_d7ce4408 ws9_12 ws6_12 p2 | omega) (by first | exact oq_5bcdc35f ws9_97 ws9_28 ws6_97 ws6_28 p3 | omega))
theorem lc_2 (G : GX l s0 D tys a0 dT) (GR : RS0 s0) (SF : SF0 s0) (GT : TXs0 s0) {k : kx_T} (X : AX k 350 dT) (E : kL k = l ∧ kS0 k = s0 ∧ kD k = D ∧ kR k = room_1) {q1 L : Nat} {xs : Nat → Int32} (S : SX k q1 L xs) (hL : L ≤ 3072) (I : Bd s) (jR : RLx s) (jREQ : REQ 39 234 28 s) (p1 : iI s 89 = 1) (p2 : iI s 12 ≤ 8) (p3 : iI s 28 = iI s 97) {i : Int} (hi : 0 ≤ i ∧ i + 6 ≤ (L : Int)) {ce sl : Nat} (hce : ce + 29 ≤ 601024) (hsl : sl + 222 ≤ 7293034) (hk : ∀ (A : Nat → Nat) (t : PS), Bd t → RLx t → REQ 39 234 28 t → iI t 89 = 1 → iI t 12 ≤ 8 → iI t 28 = iI t 97 → WS k 1866 [(0, .ref q1), (1, .ref (A 0)), (2, .ref (A 179)), (3, .ref (A 517)), (4, .int (Int32.ofInt i))] [] (Wd A dT t) (ce + 29) (sl + 222)) : WS k 333 [(0, .ref q1), (1, .ref (A 0)), (2, .ref (A 179)), (3, .ref (A 517)), (4, .int (Int32.ofInt i))] [] (Wd A dT s) ce sl := by
  have F : Fm [2, 4, 6, 5, 7, 8, 19, 16, 17, 18, 12, 13, 14, 15, 1, 3, 0, 73, 74, 76, 82, 83, 84, 85, 77, 75, 78, 79, 80, 81, 86, 87, 88] [16, 17, 18, 19, 1460, 160, 159, 158] s s := fm_rf _ _ s
  have b1 := bi_28 I
  have b2 := bi_97 I
  have b3 := bi_12 I
  have b4 := bi_89 I
  refine z_aload_n X (x := A 0) rfl (List.Mem.tail _ (List.Mem.head _)) (z_aload_n X (x := q1) rfl (List.Mem.head _) (z_load X (x := i) rfl (List.Mem.tail _ (List.Mem.tail _ (List.Mem.tail _ (List.Mem.tail _ (List.Mem.head _))))) (z_const X rfl (z_add X rfl (z_sld X S hL rfl (show 0 ≤ (i + 1) ∧ (i + 1) < (L : Int) by first | exact sx_in hi (by decide) | omega) ?_)))))
  have sr5 : rng (sc xs (i + 1)) := sc_rng
  refine z_aload_n X (x := A 517) rfl (List.Mem.tail _ (List.Mem.tail _ (List.Mem.tail _ (List.Mem.head _)))) (z_callL X (rm := rmN 315) (As := [.ref (A 0), .int (Int32.ofInt (sc xs (i + 1))), .ref (A 517)]) (st := []) rfl (by decide) rfl (by rw [E.1, E.2.1, E.2.2.1]; exact lw_rules G SF GT I (by omega) (by omega)) ⟨by rw [E.2.2.2]; exact (show 71 + 1 ≤ 2048 by decide), by rw [E.2.2.2]; exact (show 8 + (4 + 11) + 3060 ≤ 84000 by decide), by rw [E.2.2.2]; exact (show ce + 1 ≤ 601024 by first | exact rmo_1 hce (by decide) | exact rmo_2 hce (by decide) | omega), by rw [E.2.2.2]; exact (show sl + 6 ≤ 7293034 by first | exact rmo_1 hsl (by decide) | exact rmo_2 hsl (by decide) | omega)⟩ (Nat.le_of_ble_eq_true rfl) (fun vv A s6 hA2 hq => ?_) (fun ee A s6 hA2 hq => ?_))
  rotate_left
  · obtain ⟨Is6, Fs6, e7, hv, hrs6, hps6⟩ := hq; cases hv
  obtain ⟨Is6, Fs6, e7, hv, hrs6, hps6⟩ := hq
  have hps6p := hps6.2
  cases hv
  rw [← hA2 0 (by decide)]
  rw [← hA2 179 (by decide)]
  rw [← hA2 517 (by decide)]
  have Gs6 := fm_tq F Fs6 rfl rfl
  have JRLx_s6 : RLx s6 := RLx_fm Fs6 (by decide) jR
  have JREQ_s6 : REQ 39 234 28 s6 := REQ_fm Fs6 (by decide) jREQ
  have ws6_28 : iI s6 28 = iI s 28 := fm_iq Fs6 rfl
  have ws6_97 : iI s6 97 = iI s 97 := fm_iq Fs6 rfl
  have b8 := bi_12 Is6
  have ws6_89 : iI s6 89 = iI s 89 := fm_iq Fs6 rfl
  show WS k 344 [(0, .ref q1), (1, .ref (A 0)), (2, .ref (A 179)), (3, .ref (A 517)), (4, .int (Int32.ofInt i))] [.int (Int32.ofInt e7)] (Wd A dT s6) (ce + 1) (sl + 6)
  refine z_store X (lv' := [(5, .int (Int32.ofInt e7)), (0, .ref q1), (1, .ref (A 0)), (2, .ref (A 179)), (3, .ref (A 517)), (4, .int (Int32.ofInt i))]) rfl (by decide) (fun _ h => h) (z_aload_n X (x := A 179) rfl (List.Mem.tail _ (List.Mem.tail _ (List.Mem.tail _ (List.Mem.head _)))) (z_aload_n X (x := q1) rfl (List.Mem.tail _ (List.Mem.head _)) (z_load X (x := i) rfl (List.Mem.tail _ (List.Mem.tail _ (List.Mem.tail _ (List.Mem.tail _ (List.Mem.tail _ (List.Mem.head _)))))) (z_const X rfl (z_add X rfl (z_sld X S hL rfl (show 0 ≤ (i + 1) ∧ (i + 1) < (L : Int) by first | exact sx_in hi (by decide) | omega) ?_))))))
  have sr9 : rng (sc xs (i + 1)) := sc_rng
  refine z_callV X 179 (rm := rmN 214) (As := [.int (Int32.ofInt (sc xs (i + 1)))]) (st := []) rfl rfl (by decide) rfl (by rw [E.1, E.2.1, E.2.2.1]; exact k_rules G Is6 (by first | exact ⟨sr9.1, sr9.2⟩ | omega)) ⟨by rw [E.2.2.2]; exact (show 61 + 1 ≤ 2048 from oq_0ed3bd18), by rw [E.2.2.2]; exact (show 8 + (3 + 11) + 2660 ≤ 84000 from oq_735d5381), by rw [E.2.2.2]; exact (show (ce + 1) + 0 ≤ 601024 by first | (clear hps6; omega) | omega), by rw [E.2.2.2]; exact (show (sl + 6) + 0 ≤ 7293034 by first | (clear hps6; omega) | omega)⟩ (Nat.le_of_ble_eq_true rfl) (fun vv s10 hq => ?_) (fun ee s10 hq => ?_)
  rotate_left
  · obtain ⟨Is10, Fs10, e11, hv, hrs10, hps10⟩ := hq; cases hv
  obtain ⟨Is10, Fs10, e11, hv, hrs10, hps10⟩ := hq
  cases hv
  have Gs10 := fm_tq Gs6 Fs10 rfl rfl
  have JRLx_s10 : RLx s10 := RLx_fm Fs10 (by decide) JRLx_s6
  have JREQ_s10 : REQ 39 234 28 s10 := REQ_fm Fs10 (by decide) JREQ_s6
  have ws10_28 : iI s10 28 = iI s6 28 := fm_iq Fs10 rfl
  have ws10_97 : iI s10 97 = iI s6 97 := fm_iq Fs10 rfl
  have ws10_12 : iI s10 12 = iI s6 12 := fm_iq Fs10 rfl
  have ws10_89 : iI s10 89 = iI s6 89 := fm_iq Fs10 rfl
  have wos10 : iO s10 = iO s6 := fm_o Fs10 (by decide)
  show WS k 356 [(5, .int (Int32.ofInt e7)), (0, .ref q1), (1, .ref (A 0)), (2, .ref (A 179)), (3, .ref (A 517)), (4, .int (Int32.ofInt i))] [.int (Int32.ofInt e11)] (Wd A dT s10) (ce + 1) (sl + 6)
  refine z_store X (lv' := [(6, .int (Int32.ofInt e11)), (5, .int (Int32.ofInt e7)), (0, .ref q1), (1, .ref (A 0)), (2, .ref (A 179)), (3, .ref (A 517)), (4, .int (Int32.ofInt i))]) rfl (by decide) (fun _ h => h) (z_goto X (t := 1866) rfl rfl (w_widen (ce' := ce + 29) (sl' := sl + 222) (by first | exact Nat.le_add_right _ _ | exact Nat.add_le_add_left (by decide) _ | omega) (by first | exact Nat.le_add_right _ _ | exact Nat.add_le_add_left (by decide) _ | omega) ?_))
  exact WS_lv (lv := [(0, .ref q1), (1, .ref (A 0)), (2, .ref (A 179)), (3, .ref (A 517)), (4, .int (Int32.ofInt i))]) (List.forall_mem_cons.mpr ⟨(List.Mem.tail _ (List.Mem.tail _ (List.Mem.head _))), (List.forall_mem_cons.mpr ⟨(List.Mem.tail _ (List.Mem.tail _ (List.Mem.tail _ (List.Mem.head _)))), (List.forall_mem_cons.mpr ⟨(List.Mem.tail _ (List.Mem.tail _ (List.Mem.tail _ (List.Mem.tail _ (List.Mem.head _))))), (List.forall_mem_cons.mpr ⟨(List.Mem.tail _ (List.Mem.tail _ (List.Mem.tail _ (List.Mem.tail _ (List.Mem.tail _ (List.Mem.head _)))))), (List.forall_mem_cons.mpr ⟨(List.Mem.tail _ (List.Mem.tail _ (List.Mem.tail _ (List.Mem.tail _ (List.Mem.tail _ (List.Mem.tail _ (List.Mem.head _))))))), (fun q h => absurd h List.not_mem_nil)⟩)⟩)⟩)⟩)⟩) (hk A _ Is10 JRLx_s10 JREQ_s10 (by first | exact oq_f34933ba ws10_89 ws6_89 p1 b4.1 | omega) (by first | exact oq_86ef0b17 ws10_12 hps6.2 | omega) (by first | exact oq_5bcdc35f ws10_97 ws10_28 ws6_97 ws6_28 p3 | omega))
theorem lc_3 (G : GX l s0 D tys a0 dT) (GR : RS0 s0) (SF : SF0 s0) (GT : TXs0 s0) {k : kx_T} (X : AX k 350 dT) (E : kL k = l ∧ kS0 k = s0 ∧ kD k = D ∧ kR k = room_1) {q1 L : Nat} {xs : Nat → Int32} (S : SX k q1 L xs) (hL : L ≤ 3072) (I : Bd s) (jR : RLx s) (jREQ : REQ 39 234 28 s) (p1 : iI s 89 = 1) (p2 : iI s 12 ≤ 8) (p3 : iI s 28 = iI s 97) {i : Int} (hi : 0 ≤ i ∧ i + 6 ≤ (L : Int)) {ce sl : Nat} (hce : ce + 29 ≤ 601024) (hsl : sl + 222 ≤ 7293034) (hk : ∀ (A : Nat → Nat) (t : PS), Bd t → RLx t → REQ 39 234 28 t → iI t 89 = 1 → iI t 12 ≤ 8 → iI t 28 = iI t 97 → WS k 1866 [(0, .ref q1), (1, .ref (A 0)), (2, .ref (A 179)), (3, .ref (A 517)), (4, .int (Int32.ofInt i))] [] (Wd A dT t) (ce + 29) (sl + 222)) : WS k 361 [(0, .ref q1), (1, .ref (A 0)), (2, .ref (A 179)), (3, .ref (A 517)), (4, .int (Int32.ofInt i))] [] (Wd A dT s) ce sl := by
  have F : Fm [73] [] s s := fm_rf _ _ s
  have b1 := bi_28 I
  have b2 := bi_97 I
  have b3 := bi_12 I
  have b4 := bi_89 I
  refine z_aload_n X (x := A 0) rfl (List.Mem.tail _ (List.Mem.head _)) (z_callV X 0 (rm := rmN 138) (As := []) (st := []) rfl rfl (by decide) rfl (by rw [E.1, E.2.1, E.2.2.1]; exact cs_fault G I ) ⟨by rw [E.2.2.2]; exact (show 6 + 1 ≤ 2048 from oq_4d34cb53), by rw [E.2.2.2]; exact (show 8 + (1 + 11) + 100 ≤ 84000 from oq_a32dccc4), by rw [E.2.2.2]; exact (show ce + 0 ≤ 601024 by omega), by rw [E.2.2.2]; exact (show sl + 0 ≤ 7293034 by omega)⟩ (Nat.le_of_ble_eq_true rfl) (fun vv s5 hq => ?_) (fun ee s5 hq => ?_))
  rotate_left
  · obtain ⟨Is5, Fs5, e6, hv, hrs5, hps5⟩ := hq; cases hv
  obtain ⟨Is5, Fs5, e6, hv, hrs5, hps5⟩ := hq
  cases hv
  have Gs5 := fm_tq F Fs5 rfl rfl
  have JRLx_s5 : RLx s5 := RLx_fm Fs5 (by decide) jR
  have JREQ_s5 : REQ 39 234 28 s5 := REQ_fm Fs5 (by decide) jREQ
  have ws5_28 : iI s5 28 = iI s 28 := fm_iq Fs5 rfl
  have ws5_97 : iI s5 97 = iI s 97 := fm_iq Fs5 rfl
  have ws5_12 : iI s5 12 = iI s 12 := fm_iq Fs5 rfl
  have ws5_89 : iI s5 89 = iI s 89 := fm_iq Fs5 rfl
  have wos5 : iO s5 = iO s := fm_o Fs5 (by decide)
  show WS k 365 [(0, .ref q1), (1, .ref (A 0)), (2, .ref (A 179)), (3, .ref (A 517)), (4, .int (Int32.ofInt i))] [.int (Int32.ofInt e6)] (Wd A dT s5) ce sl
  refine w_pop X.1 (ax_d X (show cdA 350 365 = some (.pop, 1, 0, 0, 0) from rfl)) rfl (z_aload_n X (x := A 179) rfl (List.Mem.tail _ (List.Mem.tail _ (List.Mem.head _))) (z_callV X 179 (rm := rmN 215) (As := []) (st := []) rfl rfl (by decide) rfl (by rw [E.1, E.2.1, E.2.2.1]; exact k_fault G Is5 ) ⟨by rw [E.2.2.2]; exact (show 6 + 1 ≤ 2048 from oq_4d34cb53), by rw [E.2.2.2]; exact (show 8 + (1 + 11) + 100 ≤ 84000 from oq_a32dccc4), by rw [E.2.2.2]; exact (show ce + 0 ≤ 601024 by omega), by rw [E.2.2.2]; exact (show sl + 0 ≤ 7293034 by omega)⟩ (Nat.le_of_ble_eq_true rfl) (fun vv s7 hq => ?_) (fun ee s7 hq => ?_)))
  rotate_left
  · obtain ⟨Is7, Fs7, e8, hv, hrs7, hps7⟩ := hq; cases hv
  obtain ⟨Is7, Fs7, e8, hv, hrs7, hps7⟩ := hq
  cases hv
  have Gs7 := fm_tq Gs5 Fs7 rfl rfl
  have JRLx_s7 : RLx s7 := RLx_fm Fs7 (by decide) JRLx_s5
  have JREQ_s7 : REQ 39 234 28 s7 := REQ_fm Fs7 (by decide) JREQ_s5
  have ws7_28 : iI s7 28 = iI s5 28 := fm_iq Fs7 rfl
  have ws7_97 : iI s7 97 = iI s5 97 := fm_iq Fs7 rfl
  have ws7_12 : iI s7 12 = iI s5 12 := fm_iq Fs7 rfl
  have ws7_89 : iI s7 89 = iI s5 89 := fm_iq Fs7 rfl
  have wos7 : iO s7 = iO s5 := fm_o Fs7 (by decide)
  show WS k 370 [(0, .ref q1), (1, .ref (A 0)), (2, .ref (A 179)), (3, .ref (A 517)), (4, .int (Int32.ofInt i))] [.int (Int32.ofInt e8)] (Wd A dT s7) ce sl
  refine w_pop X.1 (ax_d X (show cdA 350 370 = some (.pop, 1, 0, 0, 0) from rfl)) rfl (z_goto X (t := 1866) rfl rfl (w_widen (ce' := ce + 29) (sl' := sl + 222) (by first | exact Nat.le_add_right _ _ | exact Nat.add_le_add_left (by decide) _ | omega) (by first | exact Nat.le_add_right _ _ | exact Nat.add_le_add_left (by decide) _ | omega) ?_))
  exact WS_lv (lv := [(0, .ref q1), (1, .ref (A 0)), (2, .ref (A 179)), (3, .ref (A 517)), (4, .int (Int32.ofInt i))]) (List.forall_mem_cons.mpr ⟨(List.Mem.head _), (List.forall_mem_cons.mpr ⟨(List.Mem.tail _ (List.Mem.head _)), (List.forall_mem_cons.mpr ⟨(List.Mem.tail _ (List.Mem.tail _ (List.Mem.head _))), (List.forall_mem_cons.mpr ⟨(List.Mem.tail _ (List.Mem.tail _ (List.Mem.tail _ (List.Mem.head _)))), (List.forall_mem_cons.mpr ⟨(List.Mem.tail _ (List.Mem.tail _ (List.Mem.tail _ (List.Mem.tail _ (List.Mem.head _))))), (fun q h => absurd h List.not_mem_nil)⟩)⟩)⟩)⟩)⟩) (hk A _ Is7 JRLx_s7 JREQ_s7 (by first | exact oq_f34933ba ws7_89 ws5_89 p1 b4.1 | omega) (by first | exact oq_d7ce4408 ws7_12 ws5_12 p2 | omega) (by first | exact oq_5bcdc35f ws7_97 ws7_28 ws5_97 ws5_28 p3 | omega))
theorem lc_4 (G : GX l s0 D tys a0 dT) (GR : RS0 s0) (SF : SF0 s0) (GT : TXs0 s0) {k : kx_T} (X : AX k 350 dT) (E : kL k = l ∧ kS0 k = s0 ∧ kD k = D ∧ kR k = room_1) {q1 L : Nat} {xs : Nat → Int32} (S : SX k q1 L xs) (hL : L ≤ 3072) (I : Bd s) (jR : RLx s) (jREQ : REQ 39 234 28 s) (p1 : iI s 89 = 1) (p2 : iI s 12 ≤ 8) (p3 : iI s 28 = iI s 97) {i : Int} (hi : 0 ≤ i ∧ i + 6 ≤ (L : Int)) {ce sl : Nat} (hce : ce + 29 ≤ 601024) (hsl : sl + 222 ≤ 7293034) (hk : ∀ (A : Nat → Nat) (t : PS), Bd t → RLx t → REQ 39 234 28 t → iI t 89 = 1 → iI t 12 ≤ 8 → iI t 28 = iI t 97 → WS k 1866 [(0, .ref q1), (1, .ref (A 0)), (2, .ref (A 179)), (3, .ref (A 517)), (4, .int (Int32.ofInt i))] [] (Wd A dT t) (ce + 29) (sl + 222)) : WS k 374 [(0, .ref q1), (1, .ref (A 0)), (2, .ref (A 179)), (3, .ref (A 517)), (4, .int (Int32.ofInt i))] [] (Wd A dT s) ce sl := by
  have F : Fm [73] [1460] s s := fm_rf _ _ s
  have b1 := bi_28 I
  have b2 := bi_97 I
  have b3 := bi_12 I
  have b4 := bi_89 I
  refine z_aload_n X (x := A 0) rfl (List.Mem.tail _ (List.Mem.head _)) (z_aload_n X (x := q1) rfl (List.Mem.head _) (z_load X (x := i) rfl (List.Mem.tail _ (List.Mem.tail _ (List.Mem.tail _ (List.Mem.tail _ (List.Mem.head _))))) (z_const X rfl (z_add X rfl (z_sld X S hL rfl (show 0 ≤ (i + 1) ∧ (i + 1) < (L : Int) by first | exact sx_in hi (by decide) | omega) ?_)))))
  have sr5 : rng (sc xs (i + 1)) := sc_rng
  refine z_aload_n X (x := q1) rfl (List.Mem.head _) (z_load X (x := i) rfl (List.Mem.tail _ (List.Mem.tail _ (List.Mem.tail _ (List.Mem.tail _ (List.Mem.head _))))) (z_const X rfl (z_add X rfl (z_sld X S hL rfl (show 0 ≤ (i + 2) ∧ (i + 2) < (L : Int) by first | exact sx_in hi (by decide) | omega) ?_))))
  have sr6 : rng (sc xs (i + 2)) := sc_rng
  refine z_aload_n X (x := A 517) rfl (List.Mem.tail _ (List.Mem.tail _ (List.Mem.tail _ (List.Mem.head _)))) (z_callL X (rm := rmN 316) (As := [.ref (A 0), .int (Int32.ofInt (sc xs (i + 1))), .int (Int32.ofInt (sc xs (i + 2))), .ref (A 517)]) (st := []) rfl (by decide) rfl (by rw [E.1, E.2.1, E.2.2.1]; exact lw_way G I (by omega) (by omega)) ⟨by rw [E.2.2.2]; exact (show 8 + 1 ≤ 2048 by decide), by rw [E.2.2.2]; exact (show 8 + (5 + 11) + 144 ≤ 84000 by decide), by rw [E.2.2.2]; exact (show ce + 1 ≤ 601024 by first | exact rmo_1 hce (by decide) | exact rmo_2 hce (by decide) | omega), by rw [E.2.2.2]; exact (show sl + 6 ≤ 7293034 by first | exact rmo_1 hsl (by decide) | exact rmo_2 hsl (by decide) | omega)⟩ (Nat.le_of_ble_eq_true rfl) (fun vv A s7 hA2 hq => ?_) (fun ee A s7 hA2 hq => ?_))
  rotate_left
  · obtain ⟨Is7, Fs7, e8, hv, hrs7, hps7⟩ := hq; cases hv
  obtain ⟨Is7, Fs7, e8, hv, hrs7, hps7⟩ := hq
  cases hv
  rw [← hA2 0 (by decide)]
  rw [← hA2 179 (by decide)]
  rw [← hA2 517 (by decide)]
  have Gs7 := fm_tq F Fs7 rfl rfl
  have JRLx_s7 : RLx s7 := RLx_fm Fs7 (by decide) jR
  have JREQ_s7 : REQ 39 234 28 s7 := REQ_fm Fs7 (by decide) jREQ
  have ws7_28 : iI s7 28 = iI s 28 := fm_iq Fs7 rfl
  have ws7_97 : iI s7 97 = iI s 97 := fm_iq Fs7 rfl
  have ws7_12 : iI s7 12 = iI s 12 := fm_iq Fs7 rfl
  have ws7_89 : iI s7 89 = iI s 89 := fm_iq Fs7 rfl
  show WS k 391 [(0, .ref q1), (1, .ref (A 0)), (2, .ref (A 179)), (3, .ref (A 517)), (4, .int (Int32.ofInt i))] [.int (Int32.ofInt e8)] (Wd A dT s7) (ce + 1) (sl + 6)
  refine z_store X (lv' := [(5, .int (Int32.ofInt e8)), (0, .ref q1), (1, .ref (A 0)), (2, .ref (A 179)), (3, .ref (A 517)), (4, .int (Int32.ofInt i))]) rfl (by decide) (fun _ h => h) (z_aload_n X (x := A 179) rfl (List.Mem.tail _ (List.Mem.tail _ (List.Mem.tail _ (List.Mem.head _)))) (z_aload_n X (x := q1) rfl (List.Mem.tail _ (List.Mem.head _)) (z_load X (x := i) rfl (List.Mem.tail _ (List.Mem.tail _ (List.Mem.tail _ (List.Mem.tail _ (List.Mem.tail _ (List.Mem.head _)))))) (z_const X rfl (z_add X rfl (z_sld X S hL rfl (show 0 ≤ (i + 1) ∧ (i + 1) < (L : Int) by first | exact sx_in hi (by decide) | omega) ?_))))))
  have sr9 : rng (sc xs (i + 1)) := sc_rng
  refine z_aload_n X (x := q1) rfl (List.Mem.tail _ (List.Mem.head _)) (z_load X (x := i) rfl (List.Mem.tail _ (List.Mem.tail _ (List.Mem.tail _ (List.Mem.tail _ (List.Mem.tail _ (List.Mem.head _)))))) (z_const X rfl (z_add X rfl (z_sld X S hL rfl (show 0 ≤ (i + 2) ∧ (i + 2) < (L : Int) by first | exact sx_in hi (by decide) | omega) ?_))))
  have sr10 : rng (sc xs (i + 2)) := sc_rng
  refine z_callV X 179 (rm := rmN 217) (As := [.int (Int32.ofInt (sc xs (i + 1))), .int (Int32.ofInt (sc xs (i + 2)))]) (st := []) rfl rfl (by decide) rfl (by rw [E.1, E.2.1, E.2.2.1]; exact k_way G Is7 (by first | exact ⟨sr9.1, sr9.2⟩ | omega) (by first | exact ⟨sr10.1, sr10.2⟩ | omega)) ⟨by rw [E.2.2.2]; exact (show 7 + 1 ≤ 2048 from oq_4e6106eb), by rw [E.2.2.2]; exact (show 8 + (3 + 11) + 122 ≤ 84000 from oq_38d194b9), by rw [E.2.2.2]; exact (show (ce + 1) + 0 ≤ 601024 by omega), by rw [E.2.2.2]; exact (show (sl + 6) + 0 ≤ 7293034 by omega)⟩ (Nat.le_of_ble_eq_true rfl) (fun vv s11 hq => ?_) (fun ee s11 hq => ?_)
  rotate_left
  · obtain ⟨Is11, Fs11, e12, hv, hrs11, hps11⟩ := hq; cases hv
  obtain ⟨Is11, Fs11, e12, hv, hrs11, hps11⟩ := hq
  cases hv
  have Gs11 := fm_tq Gs7 Fs11 rfl rfl
  have JRLx_s11 : RLx s11 := RLx_fm Fs11 (by decide) JRLx_s7
  have JREQ_s11 : REQ 39 234 28 s11 := REQ_fm Fs11 (by decide) JREQ_s7
  have ws11_28 : iI s11 28 = iI s7 28 := fm_iq Fs11 rfl
  have ws11_97 : iI s11 97 = iI s7 97 := fm_iq Fs11 rfl
  have ws11_12 : iI s11 12 = iI s7 12 := fm_iq Fs11 rfl
  have ws11_89 : iI s11 89 = iI s7 89 := fm_iq Fs11 rfl
  have wos11 : iO s11 = iO s7 := fm_o Fs11 (by decide)
  show WS k 409 [(5, .int (Int32.ofInt e8)), (0, .ref q1), (1, .ref (A 0)), (2, .ref (A 179)), (3, .ref (A 517)), (4, .int (Int32.ofInt i))] [.int (Int32.ofInt e12)] (Wd A dT s11) (ce + 1) (sl + 6)
  refine z_store X (lv' := [(6, .int (Int32.ofInt e12)), (5, .int (Int32.ofInt e8)), (0, .ref q1), (1, .ref (A 0)), (2, .ref (A 179)), (3, .ref (A 517)), (4, .int (Int32.ofInt i))]) rfl (by decide) (fun _ h => h) (z_goto X (t := 1866) rfl rfl (w_widen (ce' := ce + 29) (sl' := sl + 222) (by first | exact Nat.le_add_right _ _ | exact Nat.add_le_add_left (by decide) _ | omega) (by first | exact Nat.le_add_right _ _ | exact Nat.add_le_add_left (by decide) _ | omega) ?_))
  exact WS_lv (lv := [(0, .ref q1), (1, .ref (A 0)), (2, .ref (A 179)), (3, .ref (A 517)), (4, .int (Int32.ofInt i))]) (List.forall_mem_cons.mpr ⟨(List.Mem.tail _ (List.Mem.tail _ (List.Mem.head _))), (List.forall_mem_cons.mpr ⟨(List.Mem.tail _ (List.Mem.tail _ (List.Mem.tail _ (List.Mem.head _)))), (List.forall_mem_cons.mpr ⟨(List.Mem.tail _ (List.Mem.tail _ (List.Mem.tail _ (List.Mem.tail _ (List.Mem.head _))))), (List.forall_mem_cons.mpr ⟨(List.Mem.tail _ (List.Mem.tail _ (List.Mem.tail _ (List.Mem.tail _ (List.Mem.tail _ (List.Mem.head _)))))), (List.forall_mem_cons.mpr ⟨(List.Mem.tail _ (List.Mem.tail _ (List.Mem.tail _ (List.Mem.tail _ (List.Mem.tail _ (List.Mem.tail _ (List.Mem.head _))))))), (fun q h => absurd h List.not_mem_nil)⟩)⟩)⟩)⟩)⟩) (hk A _ Is11 JRLx_s11 JREQ_s11 (by first | exact oq_f34933ba ws11_89 ws7_89 p1 b4.1 | omega) (by first | exact oq_d7ce4408 ws11_12 ws7_12 p2 | omega) (by first | exact oq_5bcdc35f ws11_97 ws11_28 ws7_97 ws7_28 p3 | omega))
theorem lc_5 (G : GX l s0 D tys a0 dT) (GR : RS0 s0) (SF : SF0 s0) (GT : TXs0 s0) {k : kx_T} (X : AX k 350 dT) (E : kL k = l ∧ kS0 k = s0 ∧ kD k = D ∧ kR k = room_1) {q1 L : Nat} {xs : Nat → Int32} (S : SX k q1 L xs) (hL : L ≤ 3072) (I : Bd s) (jR : RLx s) (jREQ : REQ 39 234 28 s) (p1 : iI s 89 = 1) (p2 : iI s 12 ≤ 8) (p3 : iI s 28 = iI s 97) {i : Int} (hi : 0 ≤ i ∧ i + 6 ≤ (L : Int)) {ce sl : Nat} (hce : ce + 29 ≤ 601024) (hsl : sl + 222 ≤ 7293034) (hk : ∀ (A : Nat → Nat) (t : PS), Bd t → RLx t → REQ 39 234 28 t → iI t 89 = 1 → iI t 12 ≤ 8 → iI t 28 = iI t 97 → WS k 1866 [(0, .ref q1), (1, .ref (A 0)), (2, .ref (A 179)), (3, .ref (A 517)), (4, .int (Int32.ofInt i))] [] (Wd A dT t) (ce + 29) (sl + 222)) : WS k 414 [(0, .ref q1), (1, .ref (A 0)), (2, .ref (A 179)), (3, .ref (A 517)), (4, .int (Int32.ofInt i))] [] (Wd A dT s) ce sl := by
  have F : Fm [73] [8, 11, 12, 13, 14, 190, 191, 192, 193, 194, 195, 196, 197, 198, 199, 200, 201] s s := fm_rf _ _ s
  have b1 := bi_28 I
  have b2 := bi_97 I
  have b3 := bi_12 I
  have b4 := bi_89 I
  refine z_aload_n X (x := A 0) rfl (List.Mem.tail _ (List.Mem.head _)) (z_aload_n X (x := q1) rfl (List.Mem.head _) (z_load X (x := i) rfl (List.Mem.tail _ (List.Mem.tail _ (List.Mem.tail _ (List.Mem.tail _ (List.Mem.head _))))) (z_const X rfl (z_add X rfl (z_sld X S hL rfl (show 0 ≤ (i + 1) ∧ (i + 1) < (L : Int) by first | exact sx_in hi (by decide) | omega) ?_)))))
  have sr5 : rng (sc xs (i + 1)) := sc_rng
  refine z_aload_n X (x := q1) rfl (List.Mem.head _) (z_load X (x := i) rfl (List.Mem.tail _ (List.Mem.tail _ (List.Mem.tail _ (List.Mem.tail _ (List.Mem.head _))))) (z_const X rfl (z_add X rfl (z_sld X S hL rfl (show 0 ≤ (i + 2) ∧ (i + 2) < (L : Int) by first | exact sx_in hi (by decide) | omega) ?_))))
  have sr6 : rng (sc xs (i + 2)) := sc_rng
  refine z_aload_n X (x := q1) rfl (List.Mem.head _) (z_load X (x := i) rfl (List.Mem.tail _ (List.Mem.tail _ (List.Mem.tail _ (List.Mem.tail _ (List.Mem.head _))))) (z_const X rfl (z_add X rfl (z_sld X S hL rfl (show 0 ≤ (i + 3) ∧ (i + 3) < (L : Int) by first | exact sx_in hi (by decide) | omega) ?_))))
  have sr7 : rng (sc xs (i + 3)) := sc_rng
  refine z_aload_n X (x := q1) rfl (List.Mem.head _) (z_load X (x := i) rfl (List.Mem.tail _ (List.Mem.tail _ (List.Mem.tail _ (List.Mem.tail _ (List.Mem.head _))))) (z_const X rfl (z_add X rfl (z_sld X S hL rfl (show 0 ≤ (i + 4) ∧ (i + 4) < (L : Int) by first | exact sx_in hi (by decide) | omega) ?_))))
  have sr8 : rng (sc xs (i + 4)) := sc_rng
  refine z_callL X (rm := rmN 317) (As := [.ref (A 0), .int (Int32.ofInt (sc xs (i + 1))), .int (Int32.ofInt (sc xs (i + 2))), .int (Int32.ofInt (sc xs (i + 3))), .int (Int32.ofInt (sc xs (i + 4)))]) (st := []) rfl (by decide) rfl (by rw [E.1, E.2.1, E.2.2.1]; exact lw_flow G I (by omega) (by omega) (by omega) (by omega)) ⟨by rw [E.2.2.2]; exact (show 11 + 1 ≤ 2048 by decide), by rw [E.2.2.2]; exact (show 8 + (6 + 11) + 219 ≤ 84000 by decide), by rw [E.2.2.2]; exact (show ce + 5 ≤ 601024 by first | exact rmo_1 hce (by decide) | exact rmo_2 hce (by decide) | omega), by rw [E.2.2.2]; exact (show sl + 30 ≤ 7293034 by first | exact rmo_1 hsl (by decide) | exact rmo_2 hsl (by decide) | omega)⟩ (Nat.le_of_ble_eq_true rfl) (fun vv A s9 hA2 hq => ?_) (fun ee A s9 hA2 hq => ?_)
  rotate_left
  · obtain ⟨Is9, Fs9, e10, hv, hrs9, hps9⟩ := hq; cases hv
  obtain ⟨Is9, Fs9, e10, hv, hrs9, hps9⟩ := hq
  cases hv
  rw [← hA2 0 (by decide)]
  rw [← hA2 179 (by decide)]
  rw [← hA2 517 (by decide)]
  have Gs9 := fm_tq F Fs9 rfl rfl
  have JRLx_s9 : RLx s9 := RLx_fm Fs9 (by decide) jR
  have JREQ_s9 : REQ 39 234 28 s9 := REQ_fm Fs9 (by decide) jREQ
  have ws9_28 : iI s9 28 = iI s 28 := fm_iq Fs9 rfl
  have ws9_97 : iI s9 97 = iI s 97 := fm_iq Fs9 rfl
  have ws9_12 : iI s9 12 = iI s 12 := fm_iq Fs9 rfl
  have ws9_89 : iI s9 89 = iI s 89 := fm_iq Fs9 rfl
  have wos9 : iO s9 = iO s := fm_o Fs9 (by decide)
  show WS k 442 [(0, .ref q1), (1, .ref (A 0)), (2, .ref (A 179)), (3, .ref (A 517)), (4, .int (Int32.ofInt i))] [.int (Int32.ofInt e10)] (Wd A dT s9) (ce + 5) (sl + 30)
  refine z_store X (lv' := [(5, .int (Int32.ofInt e10)), (0, .ref q1), (1, .ref (A 0)), (2, .ref (A 179)), (3, .ref (A 517)), (4, .int (Int32.ofInt i))]) rfl (by decide) (fun _ h => h) (z_aload_n X (x := A 179) rfl (List.Mem.tail _ (List.Mem.tail _ (List.Mem.tail _ (List.Mem.head _)))) (z_aload_n X (x := q1) rfl (List.Mem.tail _ (List.Mem.head _)) (z_load X (x := i) rfl (List.Mem.tail _ (List.Mem.tail _ (List.Mem.tail _ (List.Mem.tail _ (List.Mem.tail _ (List.Mem.head _)))))) (z_const X rfl (z_add X rfl (z_sld X S hL rfl (show 0 ≤ (i + 1) ∧ (i + 1) < (L : Int) by first | exact sx_in hi (by decide) | omega) ?_))))))
  have sr11 : rng (sc xs (i + 1)) := sc_rng
  refine z_aload_n X (x := q1) rfl (List.Mem.tail _ (List.Mem.head _)) (z_load X (x := i) rfl (List.Mem.tail _ (List.Mem.tail _ (List.Mem.tail _ (List.Mem.tail _ (List.Mem.tail _ (List.Mem.head _)))))) (z_const X rfl (z_add X rfl (z_sld X S hL rfl (show 0 ≤ (i + 2) ∧ (i + 2) < (L : Int) by first | exact sx_in hi (by decide) | omega) ?_))))
  have sr12 : rng (sc xs (i + 2)) := sc_rng
  refine z_aload_n X (x := q1) rfl (List.Mem.tail _ (List.Mem.head _)) (z_load X (x := i) rfl (List.Mem.tail _ (List.Mem.tail _ (List.Mem.tail _ (List.Mem.tail _ (List.Mem.tail _ (List.Mem.head _)))))) (z_const X rfl (z_add X rfl (z_sld X S hL rfl (show 0 ≤ (i + 3) ∧ (i + 3) < (L : Int) by first | exact sx_in hi (by decide) | omega) ?_))))
  have sr13 : rng (sc xs (i + 3)) := sc_rng
  refine z_aload_n X (x := q1) rfl (List.Mem.tail _ (List.Mem.head _)) (z_load X (x := i) rfl (List.Mem.tail _ (List.Mem.tail _ (List.Mem.tail _ (List.Mem.tail _ (List.Mem.tail _ (List.Mem.head _)))))) (z_const X rfl (z_add X rfl (z_sld X S hL rfl (show 0 ≤ (i + 4) ∧ (i + 4) < (L : Int) by first | exact sx_in hi (by decide) | omega) ?_))))
  have sr14 : rng (sc xs (i + 4)) := sc_rng
  refine z_callV X 179 (rm := rmN 218) (As := [.int (Int32.ofInt (sc xs (i + 1))), .int (Int32.ofInt (sc xs (i + 2))), .int (Int32.ofInt (sc xs (i + 3))), .int (Int32.ofInt (sc xs (i + 4)))]) (st := []) rfl rfl (by decide) rfl (by rw [E.1, E.2.1, E.2.2.1]; exact k_flow G Is9 (by first | exact ⟨sr11.1, sr11.2⟩ | omega) (by first | exact ⟨sr12.1, sr12.2⟩ | omega) (by first | exact ⟨sr13.1, sr13.2⟩ | omega) (by first | exact ⟨sr14.1, sr14.2⟩ | omega)) ⟨by rw [E.2.2.2]; exact (show 7 + 1 ≤ 2048 from oq_4e6106eb), by rw [E.2.2.2]; exact (show 8 + (6 + 11) + 122 ≤ 84000 from oq_380e4f97), by rw [E.2.2.2]; exact (show (ce + 5) + 0 ≤ 601024 by omega), by rw [E.2.2.2]; exact (show (sl + 30) + 0 ≤ 7293034 by omega)⟩ (Nat.le_of_ble_eq_true rfl) (fun vv s15 hq => ?_) (fun ee s15 hq => ?_)
  rotate_left
  · obtain ⟨Is15, Fs15, hv, hps15⟩ := hq; cases hv
  obtain ⟨Is15, Fs15, hv, hps15⟩ := hq
  cases hv
  have Gs15 := fm_tq Gs9 Fs15 rfl rfl
  have JRLx_s15 : RLx s15 := RLx_fm Fs15 (by decide) JRLx_s9
  have JREQ_s15 : REQ 39 234 28 s15 := REQ_fm Fs15 (by decide) JREQ_s9
  have ws15_28 : iI s15 28 = iI s9 28 := fm_iq Fs15 rfl
  have ws15_97 : iI s15 97 = iI s9 97 := fm_iq Fs15 rfl
  have ws15_12 : iI s15 12 = iI s9 12 := fm_iq Fs15 rfl
  have ws15_89 : iI s15 89 = iI s9 89 := fm_iq Fs15 rfl
  have wos15 : iO s15 = iO s9 := fm_o Fs15 (by decide)
  show WS k 472 [(5, .int (Int32.ofInt e10)), (0, .ref q1), (1, .ref (A 0)), (2, .ref (A 179)), (3, .ref (A 517)), (4, .int (Int32.ofInt i))] [] (Wd A dT s15) (ce + 5) (sl + 30)
  refine z_goto X (t := 1866) rfl rfl (w_widen (ce' := ce + 29) (sl' := sl + 222) (by first | exact Nat.le_add_right _ _ | exact Nat.add_le_add_left (by decide) _ | omega) (by first | exact Nat.le_add_right _ _ | exact Nat.add_le_add_left (by decide) _ | omega) ?_)
  exact WS_lv (lv := [(0, .ref q1), (1, .ref (A 0)), (2, .ref (A 179)), (3, .ref (A 517)), (4, .int (Int32.ofInt i))]) (List.forall_mem_cons.mpr ⟨(List.Mem.tail _ (List.Mem.head _)), (List.forall_mem_cons.mpr ⟨(List.Mem.tail _ (List.Mem.tail _ (List.Mem.head _))), (List.forall_mem_cons.mpr ⟨(List.Mem.tail _ (List.Mem.tail _ (List.Mem.tail _ (List.Mem.head _)))), (List.forall_mem_cons.mpr ⟨(List.Mem.tail _ (List.Mem.tail _ (List.Mem.tail _ (List.Mem.tail _ (List.Mem.head _))))), (List.forall_mem_cons.mpr ⟨(List.Mem.tail _ (List.Mem.tail _ (List.Mem.tail _ (List.Mem.tail _ (List.Mem.tail _ (List.Mem.head _)))))), (fun q h => absurd h List.not_mem_nil)⟩)⟩)⟩)⟩)⟩) (hk A _ Is15 JRLx_s15 JREQ_s15 (by first | exact oq_f34933ba ws15_89 ws9_89 p1 b4.1 | omega) (by first | exact oq_d7ce4408 ws15_12 ws9_12 p2 | omega) (by first | exact oq_5bcdc35f ws15_97 ws15_28 ws9_97 ws9_28 p3 | omega))
theorem lc_6 (G : GX l s0 D tys a0 dT) (GR : RS0 s0) (SF : SF0 s0) (GT : TXs0 s0) {k : kx_T} (X : AX k 350 dT) (E : kL k = l ∧ kS0 k = s0 ∧ kD k = D ∧ kR k = room_1) {q1 L : Nat} {xs : Nat → Int32} (S : SX k q1 L xs) (hL : L ≤ 3072) (I : Bd s) (jR : RLx s) (jREQ : REQ 39 234 28 s) (p1 : iI s 89 = 1) (p2 : iI s 12 ≤ 8) (p3 : iI s 28 = iI s 97) {i : Int} (hi : 0 ≤ i ∧ i + 6 ≤ (L : Int)) {ce sl : Nat} (hce : ce + 29 ≤ 601024) (hsl : sl + 222 ≤ 7293034) (hk : ∀ (A : Nat → Nat) (t : PS), Bd t → RLx t → REQ 39 234 28 t → iI t 89 = 1 → iI t 12 ≤ 8 → iI t 28 = iI t 97 → WS k 1866 [(0, .ref q1), (1, .ref (A 0)), (2, .ref (A 179)), (3, .ref (A 517)), (4, .int (Int32.ofInt i))] [] (Wd A dT t) (ce + 29) (sl + 222)) : WS k 475 [(0, .ref q1), (1, .ref (A 0)), (2, .ref (A 179)), (3, .ref (A 517)), (4, .int (Int32.ofInt i))] [] (Wd A dT s) ce sl := by
  have F : Fm [73] [9, 10, 11, 12, 13, 14, 163, 164] s s := fm_rf _ _ s
  have b1 := bi_28 I
  have b2 := bi_97 I
  have b3 := bi_12 I
  have b4 := bi_89 I
  refine z_aload_n X (x := A 0) rfl (List.Mem.tail _ (List.Mem.head _)) (z_aload_n X (x := q1) rfl (List.Mem.head _) (z_load X (x := i) rfl (List.Mem.tail _ (List.Mem.tail _ (List.Mem.tail _ (List.Mem.tail _ (List.Mem.head _))))) (z_const X rfl (z_add X rfl (z_sld X S hL rfl (show 0 ≤ (i + 1) ∧ (i + 1) < (L : Int) by first | exact sx_in hi (by decide) | omega) ?_)))))
  have sr5 : rng (sc xs (i + 1)) := sc_rng
  refine z_aload_n X (x := q1) rfl (List.Mem.head _) (z_load X (x := i) rfl (List.Mem.tail _ (List.Mem.tail _ (List.Mem.tail _ (List.Mem.tail _ (List.Mem.head _))))) (z_const X rfl (z_add X rfl (z_sld X S hL rfl (show 0 ≤ (i + 2) ∧ (i + 2) < (L : Int) by first | exact sx_in hi (by decide) | omega) ?_))))
  have sr6 : rng (sc xs (i + 2)) := sc_rng
  refine z_aload_n X (x := q1) rfl (List.Mem.head _) (z_load X (x := i) rfl (List.Mem.tail _ (List.Mem.tail _ (List.Mem.tail _ (List.Mem.tail _ (List.Mem.head _))))) (z_const X rfl (z_add X rfl (z_sld X S hL rfl (show 0 ≤ (i + 3) ∧ (i + 3) < (L : Int) by first | exact sx_in hi (by decide) | omega) ?_))))
  have sr7 : rng (sc xs (i + 3)) := sc_rng
  refine z_callL X (rm := rmN 318) (As := [.ref (A 0), .int (Int32.ofInt (sc xs (i + 1))), .int (Int32.ofInt (sc xs (i + 2))), .int (Int32.ofInt (sc xs (i + 3)))]) (st := []) rfl (by decide) rfl (by rw [E.1, E.2.1, E.2.2.1]; exact lw_span G I (by omega) (by omega) (by omega)) ⟨by rw [E.2.2.2]; exact (show 11 + 1 ≤ 2048 by decide), by rw [E.2.2.2]; exact (show 8 + (5 + 11) + 216 ≤ 84000 by decide), by rw [E.2.2.2]; exact (show ce + 3 ≤ 601024 by first | exact rmo_1 hce (by decide) | exact rmo_2 hce (by decide) | omega), by rw [E.2.2.2]; exact (show sl + 18 ≤ 7293034 by first | exact rmo_1 hsl (by decide) | exact rmo_2 hsl (by decide) | omega)⟩ (Nat.le_of_ble_eq_true rfl) (fun vv A s8 hA2 hq => ?_) (fun ee A s8 hA2 hq => ?_)
  rotate_left
  · obtain ⟨Is8, Fs8, e9, hv, hrs8, hps8⟩ := hq; cases hv
  obtain ⟨Is8, Fs8, e9, hv, hrs8, hps8⟩ := hq
  cases hv
  rw [← hA2 0 (by decide)]
  rw [← hA2 179 (by decide)]
  rw [← hA2 517 (by decide)]
  have Gs8 := fm_tq F Fs8 rfl rfl
  have JRLx_s8 : RLx s8 := RLx_fm Fs8 (by decide) jR
  have JREQ_s8 : REQ 39 234 28 s8 := REQ_fm Fs8 (by decide) jREQ
  have ws8_28 : iI s8 28 = iI s 28 := fm_iq Fs8 rfl
  have ws8_97 : iI s8 97 = iI s 97 := fm_iq Fs8 rfl
  have ws8_12 : iI s8 12 = iI s 12 := fm_iq Fs8 rfl
  have ws8_89 : iI s8 89 = iI s 89 := fm_iq Fs8 rfl
  have wos8 : iO s8 = iO s := fm_o Fs8 (by decide)
  show WS k 497 [(0, .ref q1), (1, .ref (A 0)), (2, .ref (A 179)), (3, .ref (A 517)), (4, .int (Int32.ofInt i))] [.int (Int32.ofInt e9)] (Wd A dT s8) (ce + 3) (sl + 18)
  refine z_store X (lv' := [(5, .int (Int32.ofInt e9)), (0, .ref q1), (1, .ref (A 0)), (2, .ref (A 179)), (3, .ref (A 517)), (4, .int (Int32.ofInt i))]) rfl (by decide) (fun _ h => h) (z_aload_n X (x := A 179) rfl (List.Mem.tail _ (List.Mem.tail _ (List.Mem.tail _ (List.Mem.head _)))) (z_aload_n X (x := q1) rfl (List.Mem.tail _ (List.Mem.head _)) (z_load X (x := i) rfl (List.Mem.tail _ (List.Mem.tail _ (List.Mem.tail _ (List.Mem.tail _ (List.Mem.tail _ (List.Mem.head _)))))) (z_const X rfl (z_add X rfl (z_sld X S hL rfl (show 0 ≤ (i + 1) ∧ (i + 1) < (L : Int) by first | exact sx_in hi (by decide) | omega) ?_))))))
  have sr10 : rng (sc xs (i + 1)) := sc_rng
  refine z_aload_n X (x := q1) rfl (List.Mem.tail _ (List.Mem.head _)) (z_load X (x := i) rfl (List.Mem.tail _ (List.Mem.tail _ (List.Mem.tail _ (List.Mem.tail _ (List.Mem.tail _ (List.Mem.head _)))))) (z_const X rfl (z_add X rfl (z_sld X S hL rfl (show 0 ≤ (i + 2) ∧ (i + 2) < (L : Int) by first | exact sx_in hi (by decide) | omega) ?_))))
  have sr11 : rng (sc xs (i + 2)) := sc_rng
  refine z_aload_n X (x := q1) rfl (List.Mem.tail _ (List.Mem.head _)) (z_load X (x := i) rfl (List.Mem.tail _ (List.Mem.tail _ (List.Mem.tail _ (List.Mem.tail _ (List.Mem.tail _ (List.Mem.head _)))))) (z_const X rfl (z_add X rfl (z_sld X S hL rfl (show 0 ≤ (i + 3) ∧ (i + 3) < (L : Int) by first | exact sx_in hi (by decide) | omega) ?_))))
  have sr12 : rng (sc xs (i + 3)) := sc_rng
  refine z_callV X 179 (rm := rmN 219) (As := [.int (Int32.ofInt (sc xs (i + 1))), .int (Int32.ofInt (sc xs (i + 2))), .int (Int32.ofInt (sc xs (i + 3)))]) (st := []) rfl rfl (by decide) rfl (by rw [E.1, E.2.1, E.2.2.1]; exact k_span G Is8 (by first | exact ⟨sr10.1, sr10.2⟩ | omega) (by first | exact ⟨sr11.1, sr11.2⟩ | omega) (by first | exact ⟨sr12.1, sr12.2⟩ | omega)) ⟨by rw [E.2.2.2]; exact (show 7 + 1 ≤ 2048 from oq_4e6106eb), by rw [E.2.2.2]; exact (show 8 + (4 + 11) + 122 ≤ 84000 from oq_ebbf79c1), by rw [E.2.2.2]; exact (show (ce + 3) + 0 ≤ 601024 by omega), by rw [E.2.2.2]; exact (show (sl + 18) + 0 ≤ 7293034 by omega)⟩ (Nat.le_of_ble_eq_true rfl) (fun vv s13 hq => ?_) (fun ee s13 hq => ?_)
  rotate_left
  · obtain ⟨Is13, Fs13, hv, hps13⟩ := hq; cases hv
  obtain ⟨Is13, Fs13, hv, hps13⟩ := hq
  cases hv
  have Gs13 := fm_tq Gs8 Fs13 rfl rfl
  have JRLx_s13 : RLx s13 := RLx_fm Fs13 (by decide) JRLx_s8
  have JREQ_s13 : REQ 39 234 28 s13 := REQ_fm Fs13 (by decide) JREQ_s8
  have ws13_28 : iI s13 28 = iI s8 28 := fm_iq Fs13 rfl
  have ws13_97 : iI s13 97 = iI s8 97 := fm_iq Fs13 rfl
  have ws13_12 : iI s13 12 = iI s8 12 := fm_iq Fs13 rfl
  have ws13_89 : iI s13 89 = iI s8 89 := fm_iq Fs13 rfl
  have wos13 : iO s13 = iO s8 := fm_o Fs13 (by decide)
  show WS k 521 [(5, .int (Int32.ofInt e9)), (0, .ref q1), (1, .ref (A 0)), (2, .ref (A 179)), (3, .ref (A 517)), (4, .int (Int32.ofInt i))] [] (Wd A dT s13) (ce + 3) (sl + 18)
  refine z_goto X (t := 1866) rfl rfl (w_widen (ce' := ce + 29) (sl' := sl + 222) (by first | exact Nat.le_add_right _ _ | exact Nat.add_le_add_left (by decide) _ | omega) (by first | exact Nat.le_add_right _ _ | exact Nat.add_le_add_left (by decide) _ | omega) ?_)
  exact WS_lv (lv := [(0, .ref q1), (1, .ref (A 0)), (2, .ref (A 179)), (3, .ref (A 517)), (4, .int (Int32.ofInt i))]) (List.forall_mem_cons.mpr ⟨(List.Mem.tail _ (List.Mem.head _)), (List.forall_mem_cons.mpr ⟨(List.Mem.tail _ (List.Mem.tail _ (List.Mem.head _))), (List.forall_mem_cons.mpr ⟨(List.Mem.tail _ (List.Mem.tail _ (List.Mem.tail _ (List.Mem.head _)))), (List.forall_mem_cons.mpr ⟨(List.Mem.tail _ (List.Mem.tail _ (List.Mem.tail _ (List.Mem.tail _ (List.Mem.head _))))), (List.forall_mem_cons.mpr ⟨(List.Mem.tail _ (List.Mem.tail _ (List.Mem.tail _ (List.Mem.tail _ (List.Mem.tail _ (List.Mem.head _)))))), (fun q h => absurd h List.not_mem_nil)⟩)⟩)⟩)⟩)⟩) (hk A _ Is13 JRLx_s13 JREQ_s13 (by first | exact oq_f34933ba ws13_89 ws8_89 p1 b4.1 | omega) (by first | exact oq_d7ce4408 ws13_12 ws8_12 p2 | omega) (by first | exact oq_5bcdc35f ws13_97 ws13_28 ws8_97 ws8_28 p3 | omega))
theorem lc_7 (G : GX l s0 D tys a0 dT) (GR : RS0 s0) (SF : SF0 s0) (GT : TXs0 s0) {k : kx_T} (X : AX k 350 dT) (E : kL k = l ∧ kS0 k = s0 ∧ kD k = D ∧ kR k = room_1) {q1 L : Nat} {xs : Nat → Int32} (S : SX k q1 L xs) (hL : L ≤ 3072) (I : Bd s) (jR : RLx s) (jREQ : REQ 39 234 28 s) (p1 : iI s 89 = 1) (p2 : iI s 12 ≤ 8) (p3 : iI s 28 = iI s 97) {i : Int} (hi : 0 ≤ i ∧ i + 6 ≤ (L : Int)) {ce sl : Nat} (hce : ce + 29 ≤ 601024) (hsl : sl + 222 ≤ 7293034) (hk : ∀ (A : Nat → Nat) (t : PS), Bd t → RLx t → REQ 39 234 28 t → iI t 89 = 1 → iI t 12 ≤ 8 → iI t 28 = iI t 97 → WS k 1866 [(0, .ref q1), (1, .ref (A 0)), (2, .ref (A 179)), (3, .ref (A 517)), (4, .int (Int32.ofInt i))] [] (Wd A dT t) (ce + 29) (sl + 222)) : WS k 524 [(0, .ref q1), (1, .ref (A 0)), (2, .ref (A 179)), (3, .ref (A 517)), (4, .int (Int32.ofInt i))] [] (Wd A dT s) ce sl := by
  have F : Fm [73] [1460] s s := fm_rf _ _ s
  have b1 := bi_28 I
  have b2 := bi_97 I
  have b3 := bi_12 I
  have b4 := bi_89 I
  refine z_aload_n X (x := A 0) rfl (List.Mem.tail _ (List.Mem.head _)) (z_aload_n X (x := q1) rfl (List.Mem.head _) (z_load X (x := i) rfl (List.Mem.tail _ (List.Mem.tail _ (List.Mem.tail _ (List.Mem.tail _ (List.Mem.head _))))) (z_const X rfl (z_add X rfl (z_sld X S hL rfl (show 0 ≤ (i + 1) ∧ (i + 1) < (L : Int) by first | exact sx_in hi (by decide) | omega) ?_)))))
  have sr5 : rng (sc xs (i + 1)) := sc_rng
  refine z_aload_n X (x := q1) rfl (List.Mem.head _) (z_load X (x := i) rfl (List.Mem.tail _ (List.Mem.tail _ (List.Mem.tail _ (List.Mem.tail _ (List.Mem.head _))))) (z_const X rfl (z_add X rfl (z_sld X S hL rfl (show 0 ≤ (i + 2) ∧ (i + 2) < (L : Int) by first | exact sx_in hi (by decide) | omega) ?_))))
  have sr6 : rng (sc xs (i + 2)) := sc_rng
  refine z_aload_n X (x := A 517) rfl (List.Mem.tail _ (List.Mem.tail _ (List.Mem.tail _ (List.Mem.head _)))) (z_callL X (rm := rmN 319) (As := [.ref (A 0), .int (Int32.ofInt (sc xs (i + 1))), .int (Int32.ofInt (sc xs (i + 2))), .ref (A 517)]) (st := []) rfl (by decide) rfl (by rw [E.1, E.2.1, E.2.2.1]; exact lw_most G I (by omega) (by omega)) ⟨by rw [E.2.2.2]; exact (show 9 + 1 ≤ 2048 by decide), by rw [E.2.2.2]; exact (show 8 + (5 + 11) + 166 ≤ 84000 by decide), by rw [E.2.2.2]; exact (show ce + 2 ≤ 601024 by first | exact rmo_1 hce (by decide) | exact rmo_2 hce (by decide) | omega), by rw [E.2.2.2]; exact (show sl + 12 ≤ 7293034 by first | exact rmo_1 hsl (by decide) | exact rmo_2 hsl (by decide) | omega)⟩ (Nat.le_of_ble_eq_true rfl) (fun vv A s7 hA2 hq => ?_) (fun ee A s7 hA2 hq => ?_))
  rotate_left
  · obtain ⟨Is7, Fs7, e8, hv, hrs7, hps7⟩ := hq; cases hv
  obtain ⟨Is7, Fs7, e8, hv, hrs7, hps7⟩ := hq
  cases hv
  rw [← hA2 0 (by decide)]
  rw [← hA2 179 (by decide)]
  rw [← hA2 517 (by decide)]
  have Gs7 := fm_tq F Fs7 rfl rfl
  have JRLx_s7 : RLx s7 := RLx_fm Fs7 (by decide) jR
  have JREQ_s7 : REQ 39 234 28 s7 := REQ_fm Fs7 (by decide) jREQ
  have ws7_28 : iI s7 28 = iI s 28 := fm_iq Fs7 rfl
  have ws7_97 : iI s7 97 = iI s 97 := fm_iq Fs7 rfl
  have ws7_12 : iI s7 12 = iI s 12 := fm_iq Fs7 rfl
  have ws7_89 : iI s7 89 = iI s 89 := fm_iq Fs7 rfl
  show WS k 541 [(0, .ref q1), (1, .ref (A 0)), (2, .ref (A 179)), (3, .ref (A 517)), (4, .int (Int32.ofInt i))] [.int (Int32.ofInt e8)] (Wd A dT s7) (ce + 2) (sl + 12)
  refine z_store X (lv' := [(5, .int (Int32.ofInt e8)), (0, .ref q1), (1, .ref (A 0)), (2, .ref (A 179)), (3, .ref (A 517)), (4, .int (Int32.ofInt i))]) rfl (by decide) (fun _ h => h) (z_aload_n X (x := A 179) rfl (List.Mem.tail _ (List.Mem.tail _ (List.Mem.tail _ (List.Mem.head _)))) (z_aload_n X (x := q1) rfl (List.Mem.tail _ (List.Mem.head _)) (z_load X (x := i) rfl (List.Mem.tail _ (List.Mem.tail _ (List.Mem.tail _ (List.Mem.tail _ (List.Mem.tail _ (List.Mem.head _)))))) (z_const X rfl (z_add X rfl (z_sld X S hL rfl (show 0 ≤ (i + 1) ∧ (i + 1) < (L : Int) by first | exact sx_in hi (by decide) | omega) ?_))))))
  have sr9 : rng (sc xs (i + 1)) := sc_rng
  refine z_aload_n X (x := q1) rfl (List.Mem.tail _ (List.Mem.head _)) (z_load X (x := i) rfl (List.Mem.tail _ (List.Mem.tail _ (List.Mem.tail _ (List.Mem.tail _ (List.Mem.tail _ (List.Mem.head _)))))) (z_const X rfl (z_add X rfl (z_sld X S hL rfl (show 0 ≤ (i + 2) ∧ (i + 2) < (L : Int) by first | exact sx_in hi (by decide) | omega) ?_))))
  have sr10 : rng (sc xs (i + 2)) := sc_rng
  refine z_callV X 179 (rm := rmN 221) (As := [.int (Int32.ofInt (sc xs (i + 1))), .int (Int32.ofInt (sc xs (i + 2)))]) (st := []) rfl rfl (by decide) rfl (by rw [E.1, E.2.1, E.2.2.1]; exact k_most G Is7 (by first | exact ⟨sr9.1, sr9.2⟩ | omega) (by first | exact ⟨sr10.1, sr10.2⟩ | omega)) ⟨by rw [E.2.2.2]; exact (show 8 + 1 ≤ 2048 from oq_5bf2829b), by rw [E.2.2.2]; exact (show 8 + (3 + 11) + 146 ≤ 84000 from oq_263907be), by rw [E.2.2.2]; exact (show (ce + 2) + 0 ≤ 601024 by omega), by rw [E.2.2.2]; exact (show (sl + 12) + 0 ≤ 7293034 by omega)⟩ (Nat.le_of_ble_eq_true rfl) (fun vv s11 hq => ?_) (fun ee s11 hq => ?_)
  rotate_left
  · obtain ⟨Is11, Fs11, e12, hv, hrs11, hps11⟩ := hq; cases hv
  obtain ⟨Is11, Fs11, e12, hv, hrs11, hps11⟩ := hq
  cases hv
  have Gs11 := fm_tq Gs7 Fs11 rfl rfl
  have JRLx_s11 : RLx s11 := RLx_fm Fs11 (by decide) JRLx_s7
  have JREQ_s11 : REQ 39 234 28 s11 := REQ_fm Fs11 (by decide) JREQ_s7
  have ws11_28 : iI s11 28 = iI s7 28 := fm_iq Fs11 rfl
  have ws11_97 : iI s11 97 = iI s7 97 := fm_iq Fs11 rfl
  have ws11_12 : iI s11 12 = iI s7 12 := fm_iq Fs11 rfl
  have ws11_89 : iI s11 89 = iI s7 89 := fm_iq Fs11 rfl
  have wos11 : iO s11 = iO s7 := fm_o Fs11 (by decide)
  show WS k 559 [(5, .int (Int32.ofInt e8)), (0, .ref q1), (1, .ref (A 0)), (2, .ref (A 179)), (3, .ref (A 517)), (4, .int (Int32.ofInt i))] [.int (Int32.ofInt e12)] (Wd A dT s11) (ce + 2) (sl + 12)
  refine z_store X (lv' := [(6, .int (Int32.ofInt e12)), (5, .int (Int32.ofInt e8)), (0, .ref q1), (1, .ref (A 0)), (2, .ref (A 179)), (3, .ref (A 517)), (4, .int (Int32.ofInt i))]) rfl (by decide) (fun _ h => h) (z_goto X (t := 1866) rfl rfl (w_widen (ce' := ce + 29) (sl' := sl + 222) (by first | exact Nat.le_add_right _ _ | exact Nat.add_le_add_left (by decide) _ | omega) (by first | exact Nat.le_add_right _ _ | exact Nat.add_le_add_left (by decide) _ | omega) ?_))
  exact WS_lv (lv := [(0, .ref q1), (1, .ref (A 0)), (2, .ref (A 179)), (3, .ref (A 517)), (4, .int (Int32.ofInt i))]) (List.forall_mem_cons.mpr ⟨(List.Mem.tail _ (List.Mem.tail _ (List.Mem.head _))), (List.forall_mem_cons.mpr ⟨(List.Mem.tail _ (List.Mem.tail _ (List.Mem.tail _ (List.Mem.head _)))), (List.forall_mem_cons.mpr ⟨(List.Mem.tail _ (List.Mem.tail _ (List.Mem.tail _ (List.Mem.tail _ (List.Mem.head _))))), (List.forall_mem_cons.mpr ⟨(List.Mem.tail _ (List.Mem.tail _ (List.Mem.tail _ (List.Mem.tail _ (List.Mem.tail _ (List.Mem.head _)))))), (List.forall_mem_cons.mpr ⟨(List.Mem.tail _ (List.Mem.tail _ (List.Mem.tail _ (List.Mem.tail _ (List.Mem.tail _ (List.Mem.tail _ (List.Mem.head _))))))), (fun q h => absurd h List.not_mem_nil)⟩)⟩)⟩)⟩)⟩) (hk A _ Is11 JRLx_s11 JREQ_s11 (by first | exact oq_f34933ba ws11_89 ws7_89 p1 b4.1 | omega) (by first | exact oq_d7ce4408 ws11_12 ws7_12 p2 | omega) (by first | exact oq_5bcdc35f ws11_97 ws11_28 ws7_97 ws7_28 p3 | omega))
theorem lc_8 (G : GX l s0 D tys a0 dT) (GR : RS0 s0) (SF : SF0 s0) (GT : TXs0 s0) {k : kx_T} (X : AX k 350 dT) (E : kL k = l ∧ kS0 k = s0 ∧ kD k = D ∧ kR k = room_1) {q1 L : Nat} {xs : Nat → Int32} (S : SX k q1 L xs) (hL : L ≤ 3072) (I : Bd s) (jR : RLx s) (jREQ : REQ 39 234 28 s) (p1 : iI s 89 = 1) (p2 : iI s 12 ≤ 8) (p3 : iI s 28 = iI s 97) {i : Int} (hi : 0 ≤ i ∧ i + 6 ≤ (L : Int)) {ce sl : Nat} (hce : ce + 29 ≤ 601024) (hsl : sl + 222 ≤ 7293034) (hk : ∀ (A : Nat → Nat) (t : PS), Bd t → RLx t → REQ 39 234 28 t → iI t 89 = 1 → iI t 12 ≤ 8 → iI t 28 = iI t 97 → WS k 1866 [(0, .ref q1), (1, .ref (A 0)), (2, .ref (A 179)), (3, .ref (A 517)), (4, .int (Int32.ofInt i))] [] (Wd A dT t) (ce + 29) (sl + 222)) : WS k 564 [(0, .ref q1), (1, .ref (A 0)), (2, .ref (A 179)), (3, .ref (A 517)), (4, .int (Int32.ofInt i))] [] (Wd A dT s) ce sl := by
  have F : Fm [73] [21, 1022, 1023, 1460, 228] s s := fm_rf _ _ s
  have b1 := bi_28 I
  have b2 := bi_97 I
  have b3 := bi_12 I
  have b4 := bi_89 I
  refine z_aload_n X (x := A 0) rfl (List.Mem.tail _ (List.Mem.head _)) (z_aload_n X (x := q1) rfl (List.Mem.head _) (z_load X (x := i) rfl (List.Mem.tail _ (List.Mem.tail _ (List.Mem.tail _ (List.Mem.tail _ (List.Mem.head _))))) (z_const X rfl (z_add X rfl (z_sld X S hL rfl (show 0 ≤ (i + 1) ∧ (i + 1) < (L : Int) by first | exact sx_in hi (by decide) | omega) ?_)))))
  have sr5 : rng (sc xs (i + 1)) := sc_rng
  refine z_aload_n X (x := q1) rfl (List.Mem.head _) (z_load X (x := i) rfl (List.Mem.tail _ (List.Mem.tail _ (List.Mem.tail _ (List.Mem.tail _ (List.Mem.head _))))) (z_const X rfl (z_add X rfl (z_sld X S hL rfl (show 0 ≤ (i + 2) ∧ (i + 2) < (L : Int) by first | exact sx_in hi (by decide) | omega) ?_))))
  have sr6 : rng (sc xs (i + 2)) := sc_rng
  refine z_aload_n X (x := A 517) rfl (List.Mem.tail _ (List.Mem.tail _ (List.Mem.tail _ (List.Mem.head _)))) (z_callL X (rm := rmN 320) (As := [.ref (A 0), .int (Int32.ofInt (sc xs (i + 1))), .int (Int32.ofInt (sc xs (i + 2))), .ref (A 517)]) (st := []) rfl (by decide) rfl (by rw [E.1, E.2.1, E.2.2.1]; exact lw_assign G I (by omega) (by omega)) ⟨by rw [E.2.2.2]; exact (show 8 + 1 ≤ 2048 by decide), by rw [E.2.2.2]; exact (show 8 + (5 + 11) + 148 ≤ 84000 by decide), by rw [E.2.2.2]; exact (show ce + 2 ≤ 601024 by first | exact rmo_1 hce (by decide) | exact rmo_2 hce (by decide) | omega), by rw [E.2.2.2]; exact (show sl + 12 ≤ 7293034 by first | exact rmo_1 hsl (by decide) | exact rmo_2 hsl (by decide) | omega)⟩ (Nat.le_of_ble_eq_true rfl) (fun vv A s7 hA2 hq => ?_) (fun ee A s7 hA2 hq => ?_))
  rotate_left
  · obtain ⟨Is7, Fs7, e8, hv, hrs7, hps7⟩ := hq; cases hv
  obtain ⟨Is7, Fs7, e8, hv, hrs7, hps7⟩ := hq
  cases hv
  rw [← hA2 0 (by decide)]
  rw [← hA2 179 (by decide)]
  rw [← hA2 517 (by decide)]
  have Gs7 := fm_tq F Fs7 rfl rfl
  have JRLx_s7 : RLx s7 := RLx_fm Fs7 (by decide) jR
  have JREQ_s7 : REQ 39 234 28 s7 := REQ_fm Fs7 (by decide) jREQ
  have ws7_28 : iI s7 28 = iI s 28 := fm_iq Fs7 rfl
  have ws7_97 : iI s7 97 = iI s 97 := fm_iq Fs7 rfl
  have ws7_12 : iI s7 12 = iI s 12 := fm_iq Fs7 rfl
  have ws7_89 : iI s7 89 = iI s 89 := fm_iq Fs7 rfl
  show WS k 581 [(0, .ref q1), (1, .ref (A 0)), (2, .ref (A 179)), (3, .ref (A 517)), (4, .int (Int32.ofInt i))] [.int (Int32.ofInt e8)] (Wd A dT s7) (ce + 2) (sl + 12)
  refine z_store X (lv' := [(5, .int (Int32.ofInt e8)), (0, .ref q1), (1, .ref (A 0)), (2, .ref (A 179)), (3, .ref (A 517)), (4, .int (Int32.ofInt i))]) rfl (by decide) (fun _ h => h) (z_aload_n X (x := A 179) rfl (List.Mem.tail _ (List.Mem.tail _ (List.Mem.tail _ (List.Mem.head _)))) (z_aload_n X (x := q1) rfl (List.Mem.tail _ (List.Mem.head _)) (z_load X (x := i) rfl (List.Mem.tail _ (List.Mem.tail _ (List.Mem.tail _ (List.Mem.tail _ (List.Mem.tail _ (List.Mem.head _)))))) (z_const X rfl (z_add X rfl (z_sld X S hL rfl (show 0 ≤ (i + 1) ∧ (i + 1) < (L : Int) by first | exact sx_in hi (by decide) | omega) ?_))))))
  have sr9 : rng (sc xs (i + 1)) := sc_rng
  refine z_aload_n X (x := q1) rfl (List.Mem.tail _ (List.Mem.head _)) (z_load X (x := i) rfl (List.Mem.tail _ (List.Mem.tail _ (List.Mem.tail _ (List.Mem.tail _ (List.Mem.tail _ (List.Mem.head _)))))) (z_const X rfl (z_add X rfl (z_sld X S hL rfl (show 0 ≤ (i + 2) ∧ (i + 2) < (L : Int) by first | exact sx_in hi (by decide) | omega) ?_))))
  have sr10 : rng (sc xs (i + 2)) := sc_rng
  refine z_callV X 179 (rm := rmN 234) (As := [.int (Int32.ofInt (sc xs (i + 1))), .int (Int32.ofInt (sc xs (i + 2)))]) (st := []) rfl rfl (by decide) rfl (by rw [E.1, E.2.1, E.2.2.1]; exact k_assign G Is7 (by first | exact ⟨sr9.1, sr9.2⟩ | omega) (by first | exact ⟨sr10.1, sr10.2⟩ | omega)) ⟨by rw [E.2.2.2]; exact (show 7 + 1 ≤ 2048 from oq_4e6106eb), by rw [E.2.2.2]; exact (show 8 + (4 + 11) + 122 ≤ 84000 from oq_ebbf79c1), by rw [E.2.2.2]; exact (show (ce + 2) + 0 ≤ 601024 by omega), by rw [E.2.2.2]; exact (show (sl + 12) + 0 ≤ 7293034 by omega)⟩ (Nat.le_of_ble_eq_true rfl) (fun vv s11 hq => ?_) (fun ee s11 hq => ?_)
  rotate_left
  · obtain ⟨Is11, Fs11, e12, hv, hrs11, hps11⟩ := hq; cases hv
  obtain ⟨Is11, Fs11, e12, hv, hrs11, hps11⟩ := hq
  cases hv
  have Gs11 := fm_tq Gs7 Fs11 rfl rfl
  have JRLx_s11 : RLx s11 := RLx_fm Fs11 (by decide) JRLx_s7
  have JREQ_s11 : REQ 39 234 28 s11 := REQ_fm Fs11 (by decide) JREQ_s7
  have ws11_28 : iI s11 28 = iI s7 28 := fm_iq Fs11 rfl
  have ws11_97 : iI s11 97 = iI s7 97 := fm_iq Fs11 rfl
  have ws11_12 : iI s11 12 = iI s7 12 := fm_iq Fs11 rfl
  have ws11_89 : iI s11 89 = iI s7 89 := fm_iq Fs11 rfl
  have wos11 : iO s11 = iO s7 := fm_o Fs11 (by decide)
  show WS k 599 [(5, .int (Int32.ofInt e8)), (0, .ref q1), (1, .ref (A 0)), (2, .ref (A 179)), (3, .ref (A 517)), (4, .int (Int32.ofInt i))] [.int (Int32.ofInt e12)] (Wd A dT s11) (ce + 2) (sl + 12)
  refine z_store X (lv' := [(6, .int (Int32.ofInt e12)), (5, .int (Int32.ofInt e8)), (0, .ref q1), (1, .ref (A 0)), (2, .ref (A 179)), (3, .ref (A 517)), (4, .int (Int32.ofInt i))]) rfl (by decide) (fun _ h => h) (z_goto X (t := 1866) rfl rfl (w_widen (ce' := ce + 29) (sl' := sl + 222) (by first | exact Nat.le_add_right _ _ | exact Nat.add_le_add_left (by decide) _ | omega) (by first | exact Nat.le_add_right _ _ | exact Nat.add_le_add_left (by decide) _ | omega) ?_))
  exact WS_lv (lv := [(0, .ref q1), (1, .ref (A 0)), (2, .ref (A 179)), (3, .ref (A 517)), (4, .int (Int32.ofInt i))]) (List.forall_mem_cons.mpr ⟨(List.Mem.tail _ (List.Mem.tail _ (List.Mem.head _))), (List.forall_mem_cons.mpr ⟨(List.Mem.tail _ (List.Mem.tail _ (List.Mem.tail _ (List.Mem.head _)))), (List.forall_mem_cons.mpr ⟨(List.Mem.tail _ (List.Mem.tail _ (List.Mem.tail _ (List.Mem.tail _ (List.Mem.head _))))), (List.forall_mem_cons.mpr ⟨(List.Mem.tail _ (List.Mem.tail _ (List.Mem.tail _ (List.Mem.tail _ (List.Mem.tail _ (List.Mem.head _)))))), (List.forall_mem_cons.mpr ⟨(List.Mem.tail _ (List.Mem.tail _ (List.Mem.tail _ (List.Mem.tail _ (List.Mem.tail _ (List.Mem.tail _ (List.Mem.head _))))))), (fun q h => absurd h List.not_mem_nil)⟩)⟩)⟩)⟩)⟩) (hk A _ Is11 JRLx_s11 JREQ_s11 (by first | exact oq_f34933ba ws11_89 ws7_89 p1 b4.1 | omega) (by first | exact oq_d7ce4408 ws11_12 ws7_12 p2 | omega) (by first | exact oq_5bcdc35f ws11_97 ws11_28 ws7_97 ws7_28 p3 | omega))
theorem lc_9 (G : GX l s0 D tys a0 dT) (GR : RS0 s0) (SF : SF0 s0) (GT : TXs0 s0) {k : kx_T} (X : AX k 350 dT) (E : kL k = l ∧ kS0 k = s0 ∧ kD k = D ∧ kR k = room_1) {q1 L : Nat} {xs : Nat → Int32} (S : SX k q1 L xs) (hL : L ≤ 3072) (I : Bd s) (jR : RLx s) (jREQ : REQ 39 234 28 s) (p1 : iI s 89 = 1) (p2 : iI s 12 ≤ 8) (p3 : iI s 28 = iI s 97) {i : Int} (hi : 0 ≤ i ∧ i + 6 ≤ (L : Int)) {ce sl : Nat} (hce : ce + 29 ≤ 601024) (hsl : sl + 222 ≤ 7293034) (hk : ∀ (A : Nat → Nat) (t : PS), Bd t → RLx t → REQ 39 234 28 t → iI t 89 = 1 → iI t 12 ≤ 8 → iI t 28 = iI t 97 → WS k 1866 [(0, .ref q1), (1, .ref (A 0)), (2, .ref (A 179)), (3, .ref (A 517)), (4, .int (Int32.ofInt i))] [] (Wd A dT t) (ce + 29) (sl + 222)) : WS k 604 [(0, .ref q1), (1, .ref (A 0)), (2, .ref (A 179)), (3, .ref (A 517)), (4, .int (Int32.ofInt i))] [] (Wd A dT s) ce sl := by
  have F : Fm [73] [21, 1022, 1023, 1460, 228] s s := fm_rf _ _ s
  have b1 := bi_28 I
  have b2 := bi_97 I
  have b3 := bi_12 I
  have b4 := bi_89 I
  refine z_aload_n X (x := A 0) rfl (List.Mem.tail _ (List.Mem.head _)) (z_aload_n X (x := q1) rfl (List.Mem.head _) (z_load X (x := i) rfl (List.Mem.tail _ (List.Mem.tail _ (List.Mem.tail _ (List.Mem.tail _ (List.Mem.head _))))) (z_const X rfl (z_add X rfl (z_sld X S hL rfl (show 0 ≤ (i + 1) ∧ (i + 1) < (L : Int) by first | exact sx_in hi (by decide) | omega) ?_)))))
  have sr5 : rng (sc xs (i + 1)) := sc_rng
  refine z_aload_n X (x := q1) rfl (List.Mem.head _) (z_load X (x := i) rfl (List.Mem.tail _ (List.Mem.tail _ (List.Mem.tail _ (List.Mem.tail _ (List.Mem.head _))))) (z_const X rfl (z_add X rfl (z_sld X S hL rfl (show 0 ≤ (i + 2) ∧ (i + 2) < (L : Int) by first | exact sx_in hi (by decide) | omega) ?_))))
  have sr6 : rng (sc xs (i + 2)) := sc_rng
  refine z_aload_n X (x := q1) rfl (List.Mem.head _) (z_load X (x := i) rfl (List.Mem.tail _ (List.Mem.tail _ (List.Mem.tail _ (List.Mem.tail _ (List.Mem.head _))))) (z_const X rfl (z_add X rfl (z_sld X S hL rfl (show 0 ≤ (i + 3) ∧ (i + 3) < (L : Int) by first | exact sx_in hi (by decide) | omega) ?_))))
  have sr7 : rng (sc xs (i + 3)) := sc_rng
  refine z_aload_n X (x := A 517) rfl (List.Mem.tail _ (List.Mem.tail _ (List.Mem.tail _ (List.Mem.head _)))) (z_callL X (rm := rmN 321) (As := [.ref (A 0), .int (Int32.ofInt (sc xs (i + 1))), .int (Int32.ofInt (sc xs (i + 2))), .int (Int32.ofInt (sc xs (i + 3))), .ref (A 517)]) (st := []) rfl (by decide) rfl (by rw [E.1, E.2.1, E.2.2.1]; exact lw_paint G I (by omega) (by omega) (by omega)) ⟨by rw [E.2.2.2]; exact (show 9 + 1 ≤ 2048 by decide), by rw [E.2.2.2]; exact (show 8 + (6 + 11) + 175 ≤ 84000 by decide), by rw [E.2.2.2]; exact (show ce + 4 ≤ 601024 by first | exact rmo_1 hce (by decide) | exact rmo_2 hce (by decide) | omega), by rw [E.2.2.2]; exact (show sl + 24 ≤ 7293034 by first | exact rmo_1 hsl (by decide) | exact rmo_2 hsl (by decide) | omega)⟩ (Nat.le_of_ble_eq_true rfl) (fun vv A s8 hA2 hq => ?_) (fun ee A s8 hA2 hq => ?_))
  rotate_left
  · obtain ⟨Is8, Fs8, e9, hv, hrs8, hps8⟩ := hq; cases hv
  obtain ⟨Is8, Fs8, e9, hv, hrs8, hps8⟩ := hq
  cases hv
  rw [← hA2 0 (by decide)]
  rw [← hA2 179 (by decide)]
  rw [← hA2 517 (by decide)]
  have Gs8 := fm_tq F Fs8 rfl rfl
  have JRLx_s8 : RLx s8 := RLx_fm Fs8 (by decide) jR
  have JREQ_s8 : REQ 39 234 28 s8 := REQ_fm Fs8 (by decide) jREQ
  have ws8_28 : iI s8 28 = iI s 28 := fm_iq Fs8 rfl
  have ws8_97 : iI s8 97 = iI s 97 := fm_iq Fs8 rfl
  have ws8_12 : iI s8 12 = iI s 12 := fm_iq Fs8 rfl
  have ws8_89 : iI s8 89 = iI s 89 := fm_iq Fs8 rfl
  show WS k 627 [(0, .ref q1), (1, .ref (A 0)), (2, .ref (A 179)), (3, .ref (A 517)), (4, .int (Int32.ofInt i))] [.int (Int32.ofInt e9)] (Wd A dT s8) (ce + 4) (sl + 24)
  refine z_store X (lv' := [(5, .int (Int32.ofInt e9)), (0, .ref q1), (1, .ref (A 0)), (2, .ref (A 179)), (3, .ref (A 517)), (4, .int (Int32.ofInt i))]) rfl (by decide) (fun _ h => h) (z_aload_n X (x := A 179) rfl (List.Mem.tail _ (List.Mem.tail _ (List.Mem.tail _ (List.Mem.head _)))) (z_aload_n X (x := q1) rfl (List.Mem.tail _ (List.Mem.head _)) (z_load X (x := i) rfl (List.Mem.tail _ (List.Mem.tail _ (List.Mem.tail _ (List.Mem.tail _ (List.Mem.tail _ (List.Mem.head _)))))) (z_const X rfl (z_add X rfl (z_sld X S hL rfl (show 0 ≤ (i + 1) ∧ (i + 1) < (L : Int) by first | exact sx_in hi (by decide) | omega) ?_))))))
  have sr10 : rng (sc xs (i + 1)) := sc_rng
  refine z_aload_n X (x := q1) rfl (List.Mem.tail _ (List.Mem.head _)) (z_load X (x := i) rfl (List.Mem.tail _ (List.Mem.tail _ (List.Mem.tail _ (List.Mem.tail _ (List.Mem.tail _ (List.Mem.head _)))))) (z_const X rfl (z_add X rfl (z_sld X S hL rfl (show 0 ≤ (i + 2) ∧ (i + 2) < (L : Int) by first | exact sx_in hi (by decide) | omega) ?_))))
  have sr11 : rng (sc xs (i + 2)) := sc_rng
  refine z_aload_n X (x := q1) rfl (List.Mem.tail _ (List.Mem.head _)) (z_load X (x := i) rfl (List.Mem.tail _ (List.Mem.tail _ (List.Mem.tail _ (List.Mem.tail _ (List.Mem.tail _ (List.Mem.head _)))))) (z_const X rfl (z_add X rfl (z_sld X S hL rfl (show 0 ≤ (i + 3) ∧ (i + 3) < (L : Int) by first | exact sx_in hi (by decide) | omega) ?_))))
  have sr12 : rng (sc xs (i + 3)) := sc_rng
  refine z_callV X 179 (rm := rmN 235) (As := [.int (Int32.ofInt (sc xs (i + 1))), .int (Int32.ofInt (sc xs (i + 2))), .int (Int32.ofInt (sc xs (i + 3)))]) (st := []) rfl rfl (by decide) rfl (by rw [E.1, E.2.1, E.2.2.1]; exact k_paint G Is8 (by first | exact ⟨sr10.1, sr10.2⟩ | omega) (by first | exact ⟨sr11.1, sr11.2⟩ | omega) (by first | exact ⟨sr12.1, sr12.2⟩ | omega)) ⟨by rw [E.2.2.2]; exact (show 7 + 1 ≤ 2048 from oq_4e6106eb), by rw [E.2.2.2]; exact (show 8 + (6 + 11) + 122 ≤ 84000 from oq_380e4f97), by rw [E.2.2.2]; exact (show (ce + 4) + 0 ≤ 601024 by omega), by rw [E.2.2.2]; exact (show (sl + 24) + 0 ≤ 7293034 by omega)⟩ (Nat.le_of_ble_eq_true rfl) (fun vv s13 hq => ?_) (fun ee s13 hq => ?_)
  rotate_left
  · obtain ⟨Is13, Fs13, e14, hv, hrs13, hps13⟩ := hq; cases hv
  obtain ⟨Is13, Fs13, e14, hv, hrs13, hps13⟩ := hq
  cases hv
  have Gs13 := fm_tq Gs8 Fs13 rfl rfl
  have JRLx_s13 : RLx s13 := RLx_fm Fs13 (by decide) JRLx_s8
  have JREQ_s13 : REQ 39 234 28 s13 := REQ_fm Fs13 (by decide) JREQ_s8
  have ws13_28 : iI s13 28 = iI s8 28 := fm_iq Fs13 rfl
  have ws13_97 : iI s13 97 = iI s8 97 := fm_iq Fs13 rfl
  have ws13_12 : iI s13 12 = iI s8 12 := fm_iq Fs13 rfl
  have ws13_89 : iI s13 89 = iI s8 89 := fm_iq Fs13 rfl
  have wos13 : iO s13 = iO s8 := fm_o Fs13 (by decide)
  show WS k 651 [(5, .int (Int32.ofInt e9)), (0, .ref q1), (1, .ref (A 0)), (2, .ref (A 179)), (3, .ref (A 517)), (4, .int (Int32.ofInt i))] [.int (Int32.ofInt e14)] (Wd A dT s13) (ce + 4) (sl + 24)
  refine z_store X (lv' := [(6, .int (Int32.ofInt e14)), (5, .int (Int32.ofInt e9)), (0, .ref q1), (1, .ref (A 0)), (2, .ref (A 179)), (3, .ref (A 517)), (4, .int (Int32.ofInt i))]) rfl (by decide) (fun _ h => h) (z_goto X (t := 1866) rfl rfl (w_widen (ce' := ce + 29) (sl' := sl + 222) (by first | exact Nat.le_add_right _ _ | exact Nat.add_le_add_left (by decide) _ | omega) (by first | exact Nat.le_add_right _ _ | exact Nat.add_le_add_left (by decide) _ | omega) ?_))
  exact WS_lv (lv := [(0, .ref q1), (1, .ref (A 0)), (2, .ref (A 179)), (3, .ref (A 517)), (4, .int (Int32.ofInt i))]) (List.forall_mem_cons.mpr ⟨(List.Mem.tail _ (List.Mem.tail _ (List.Mem.head _))), (List.forall_mem_cons.mpr ⟨(List.Mem.tail _ (List.Mem.tail _ (List.Mem.tail _ (List.Mem.head _)))), (List.forall_mem_cons.mpr ⟨(List.Mem.tail _ (List.Mem.tail _ (List.Mem.tail _ (List.Mem.tail _ (List.Mem.head _))))), (List.forall_mem_cons.mpr ⟨(List.Mem.tail _ (List.Mem.tail _ (List.Mem.tail _ (List.Mem.tail _ (List.Mem.tail _ (List.Mem.head _)))))), (List.forall_mem_cons.mpr ⟨(List.Mem.tail _ (List.Mem.tail _ (List.Mem.tail _ (List.Mem.tail _ (List.Mem.tail _ (List.Mem.tail _ (List.Mem.head _))))))), (fun q h => absurd h List.not_mem_nil)⟩)⟩)⟩)⟩)⟩) (hk A _ Is13 JRLx_s13 JREQ_s13 (by first | exact oq_f34933ba ws13_89 ws8_89 p1 b4.1 | omega) (by first | exact oq_d7ce4408 ws13_12 ws8_12 p2 | omega) (by first | exact oq_5bcdc35f ws13_97 ws13_28 ws8_97 ws8_28 p3 | omega))
theorem lc_10 (G : GX l s0 D tys a0 dT) (GR : RS0 s0) (SF : SF0 s0) (GT : TXs0 s0) {k : kx_T} (X : AX k 350 dT) (E : kL k = l ∧ kS0 k = s0 ∧ kD k = D ∧ kR k = room_1) {q1 L : Nat} {xs : Nat → Int32} (S : SX k q1 L xs) (hL : L ≤ 3072) (I : Bd s) (jR : RLx s) (jREQ : REQ 39 234 28 s) (p1 : iI s 89 = 1) (p2 : iI s 12 ≤ 8) (p3 : iI s 28 = iI s 97) {i : Int} (hi : 0 ≤ i ∧ i + 6 ≤ (L : Int)) {ce sl : Nat} (hce : ce + 29 ≤ 601024) (hsl : sl + 222 ≤ 7293034) (hk : ∀ (A : Nat → Nat) (t : PS), Bd t → RLx t → REQ 39 234 28 t → iI t 89 = 1 → iI t 12 ≤ 8 → iI t 28 = iI t 97 → WS k 1866 [(0, .ref q1), (1, .ref (A 0)), (2, .ref (A 179)), (3, .ref (A 517)), (4, .int (Int32.ofInt i))] [] (Wd A dT t) (ce + 29) (sl + 222)) : WS k 656 [(0, .ref q1), (1, .ref (A 0)), (2, .ref (A 179)), (3, .ref (A 517)), (4, .int (Int32.ofInt i))] [] (Wd A dT s) ce sl := by
  have F : Fm [73] [24, 1460, 229] s s := fm_rf _ _ s
  have b1 := bi_28 I
  have b2 := bi_97 I
  have b3 := bi_12 I
  have b4 := bi_89 I
  refine z_aload_n X (x := A 0) rfl (List.Mem.tail _ (List.Mem.head _)) (z_aload_n X (x := q1) rfl (List.Mem.head _) (z_load X (x := i) rfl (List.Mem.tail _ (List.Mem.tail _ (List.Mem.tail _ (List.Mem.tail _ (List.Mem.head _))))) (z_const X rfl (z_add X rfl (z_sld X S hL rfl (show 0 ≤ (i + 1) ∧ (i + 1) < (L : Int) by first | exact sx_in hi (by decide) | omega) ?_)))))
  have sr5 : rng (sc xs (i + 1)) := sc_rng
  refine z_aload_n X (x := q1) rfl (List.Mem.head _) (z_load X (x := i) rfl (List.Mem.tail _ (List.Mem.tail _ (List.Mem.tail _ (List.Mem.tail _ (List.Mem.head _))))) (z_const X rfl (z_add X rfl (z_sld X S hL rfl (show 0 ≤ (i + 2) ∧ (i + 2) < (L : Int) by first | exact sx_in hi (by decide) | omega) ?_))))
  have sr6 : rng (sc xs (i + 2)) := sc_rng
  refine z_aload_n X (x := A 517) rfl (List.Mem.tail _ (List.Mem.tail _ (List.Mem.tail _ (List.Mem.head _)))) (z_callL X (rm := rmN 322) (As := [.ref (A 0), .int (Int32.ofInt (sc xs (i + 1))), .int (Int32.ofInt (sc xs (i + 2))), .ref (A 517)]) (st := []) rfl (by decide) rfl (by rw [E.1, E.2.1, E.2.2.1]; exact lw_limit G I (by omega) (by omega)) ⟨by rw [E.2.2.2]; exact (show 9 + 1 ≤ 2048 by decide), by rw [E.2.2.2]; exact (show 8 + (5 + 11) + 167 ≤ 84000 by decide), by rw [E.2.2.2]; exact (show ce + 2 ≤ 601024 by first | exact rmo_1 hce (by decide) | exact rmo_2 hce (by decide) | omega), by rw [E.2.2.2]; exact (show sl + 12 ≤ 7293034 by first | exact rmo_1 hsl (by decide) | exact rmo_2 hsl (by decide) | omega)⟩ (Nat.le_of_ble_eq_true rfl) (fun vv A s7 hA2 hq => ?_) (fun ee A s7 hA2 hq => ?_))
  rotate_left
  · obtain ⟨Is7, Fs7, e8, hv, hrs7, hps7⟩ := hq; cases hv
  obtain ⟨Is7, Fs7, e8, hv, hrs7, hps7⟩ := hq
  cases hv
  rw [← hA2 0 (by decide)]
  rw [← hA2 179 (by decide)]
  rw [← hA2 517 (by decide)]
  have Gs7 := fm_tq F Fs7 rfl rfl
  have JRLx_s7 : RLx s7 := RLx_fm Fs7 (by decide) jR
  have JREQ_s7 : REQ 39 234 28 s7 := REQ_fm Fs7 (by decide) jREQ
  have ws7_28 : iI s7 28 = iI s 28 := fm_iq Fs7 rfl
  have ws7_97 : iI s7 97 = iI s 97 := fm_iq Fs7 rfl
  have ws7_12 : iI s7 12 = iI s 12 := fm_iq Fs7 rfl
  have ws7_89 : iI s7 89 = iI s 89 := fm_iq Fs7 rfl
  show WS k 673 [(0, .ref q1), (1, .ref (A 0)), (2, .ref (A 179)), (3, .ref (A 517)), (4, .int (Int32.ofInt i))] [.int (Int32.ofInt e8)] (Wd A dT s7) (ce + 2) (sl + 12)
  refine z_store X (lv' := [(5, .int (Int32.ofInt e8)), (0, .ref q1), (1, .ref (A 0)), (2, .ref (A 179)), (3, .ref (A 517)), (4, .int (Int32.ofInt i))]) rfl (by decide) (fun _ h => h) (z_aload_n X (x := A 179) rfl (List.Mem.tail _ (List.Mem.tail _ (List.Mem.tail _ (List.Mem.head _)))) (z_aload_n X (x := q1) rfl (List.Mem.tail _ (List.Mem.head _)) (z_load X (x := i) rfl (List.Mem.tail _ (List.Mem.tail _ (List.Mem.tail _ (List.Mem.tail _ (List.Mem.tail _ (List.Mem.head _)))))) (z_const X rfl (z_add X rfl (z_sld X S hL rfl (show 0 ≤ (i + 1) ∧ (i + 1) < (L : Int) by first | exact sx_in hi (by decide) | omega) ?_))))))
  have sr9 : rng (sc xs (i + 1)) := sc_rng
  refine z_aload_n X (x := q1) rfl (List.Mem.tail _ (List.Mem.head _)) (z_load X (x := i) rfl (List.Mem.tail _ (List.Mem.tail _ (List.Mem.tail _ (List.Mem.tail _ (List.Mem.tail _ (List.Mem.head _)))))) (z_const X rfl (z_add X rfl (z_sld X S hL rfl (show 0 ≤ (i + 2) ∧ (i + 2) < (L : Int) by first | exact sx_in hi (by decide) | omega) ?_))))
  have sr10 : rng (sc xs (i + 2)) := sc_rng
  refine z_callV X 179 (rm := rmN 236) (As := [.int (Int32.ofInt (sc xs (i + 1))), .int (Int32.ofInt (sc xs (i + 2)))]) (st := []) rfl rfl (by decide) rfl (by rw [E.1, E.2.1, E.2.2.1]; exact k_limit G Is7 (by first | exact ⟨sr9.1, sr9.2⟩ | omega) (by first | exact ⟨sr10.1, sr10.2⟩ | omega)) ⟨by rw [E.2.2.2]; exact (show 7 + 1 ≤ 2048 from oq_4e6106eb), by rw [E.2.2.2]; exact (show 8 + (4 + 11) + 122 ≤ 84000 from oq_ebbf79c1), by rw [E.2.2.2]; exact (show (ce + 2) + 0 ≤ 601024 by omega), by rw [E.2.2.2]; exact (show (sl + 12) + 0 ≤ 7293034 by omega)⟩ (Nat.le_of_ble_eq_true rfl) (fun vv s11 hq => ?_) (fun ee s11 hq => ?_)
  rotate_left
  · obtain ⟨Is11, Fs11, e12, hv, hrs11, hps11⟩ := hq; cases hv
  obtain ⟨Is11, Fs11, e12, hv, hrs11, hps11⟩ := hq
  cases hv
  have Gs11 := fm_tq Gs7 Fs11 rfl rfl
  have JRLx_s11 : RLx s11 := RLx_fm Fs11 (by decide) JRLx_s7
  have JREQ_s11 : REQ 39 234 28 s11 := REQ_fm Fs11 (by decide) JREQ_s7
  have ws11_28 : iI s11 28 = iI s7 28 := fm_iq Fs11 rfl
  have ws11_97 : iI s11 97 = iI s7 97 := fm_iq Fs11 rfl
  have ws11_12 : iI s11 12 = iI s7 12 := fm_iq Fs11 rfl
  have ws11_89 : iI s11 89 = iI s7 89 := fm_iq Fs11 rfl
  have wos11 : iO s11 = iO s7 := fm_o Fs11 (by decide)
  show WS k 691 [(5, .int (Int32.ofInt e8)), (0, .ref q1), (1, .ref (A 0)), (2, .ref (A 179)), (3, .ref (A 517)), (4, .int (Int32.ofInt i))] [.int (Int32.ofInt e12)] (Wd A dT s11) (ce + 2) (sl + 12)
  refine z_store X (lv' := [(6, .int (Int32.ofInt e12)), (5, .int (Int32.ofInt e8)), (0, .ref q1), (1, .ref (A 0)), (2, .ref (A 179)), (3, .ref (A 517)), (4, .int (Int32.ofInt i))]) rfl (by decide) (fun _ h => h) (z_goto X (t := 1866) rfl rfl (w_widen (ce' := ce + 29) (sl' := sl + 222) (by first | exact Nat.le_add_right _ _ | exact Nat.add_le_add_left (by decide) _ | omega) (by first | exact Nat.le_add_right _ _ | exact Nat.add_le_add_left (by decide) _ | omega) ?_))
  exact WS_lv (lv := [(0, .ref q1), (1, .ref (A 0)), (2, .ref (A 179)), (3, .ref (A 517)), (4, .int (Int32.ofInt i))]) (List.forall_mem_cons.mpr ⟨(List.Mem.tail _ (List.Mem.tail _ (List.Mem.head _))), (List.forall_mem_cons.mpr ⟨(List.Mem.tail _ (List.Mem.tail _ (List.Mem.tail _ (List.Mem.head _)))), (List.forall_mem_cons.mpr ⟨(List.Mem.tail _ (List.Mem.tail _ (List.Mem.tail _ (List.Mem.tail _ (List.Mem.head _))))), (List.forall_mem_cons.mpr ⟨(List.Mem.tail _ (List.Mem.tail _ (List.Mem.tail _ (List.Mem.tail _ (List.Mem.tail _ (List.Mem.head _)))))), (List.forall_mem_cons.mpr ⟨(List.Mem.tail _ (List.Mem.tail _ (List.Mem.tail _ (List.Mem.tail _ (List.Mem.tail _ (List.Mem.tail _ (List.Mem.head _))))))), (fun q h => absurd h List.not_mem_nil)⟩)⟩)⟩)⟩)⟩) (hk A _ Is11 JRLx_s11 JREQ_s11 (by first | exact oq_f34933ba ws11_89 ws7_89 p1 b4.1 | omega) (by first | exact oq_d7ce4408 ws11_12 ws7_12 p2 | omega) (by first | exact oq_5bcdc35f ws11_97 ws11_28 ws7_97 ws7_28 p3 | omega))
theorem lc_11 (G : GX l s0 D tys a0 dT) (GR : RS0 s0) (SF : SF0 s0) (GT : TXs0 s0) {k : kx_T} (X : AX k 350 dT) (E : kL k = l ∧ kS0 k = s0 ∧ kD k = D ∧ kR k = room_1) {q1 L : Nat} {xs : Nat → Int32} (S : SX k q1 L xs) (hL : L ≤ 3072) (I : Bd s) (jR : RLx s) (jREQ : REQ 39 234 28 s) (p1 : iI s 89 = 1) (p2 : iI s 12 ≤ 8) (p3 : iI s 28 = iI s 97) {i : Int} (hi : 0 ≤ i ∧ i + 6 ≤ (L : Int)) {ce sl : Nat} (hce : ce + 29 ≤ 601024) (hsl : sl + 222 ≤ 7293034) (hk : ∀ (A : Nat → Nat) (t : PS), Bd t → RLx t → REQ 39 234 28 t → iI t 89 = 1 → iI t 12 ≤ 8 → iI t 28 = iI t 97 → WS k 1866 [(0, .ref q1), (1, .ref (A 0)), (2, .ref (A 179)), (3, .ref (A 517)), (4, .int (Int32.ofInt i))] [] (Wd A dT t) (ce + 29) (sl + 222)) : WS k 696 [(0, .ref q1), (1, .ref (A 0)), (2, .ref (A 179)), (3, .ref (A 517)), (4, .int (Int32.ofInt i))] [] (Wd A dT s) ce sl := by
  have F : Fm [22, 23, 73, 77, 75, 78, 79, 80, 81] [33, 26, 27, 28, 29, 30, 31, 32, 20, 1460, 202, 204, 205, 206, 207, 208, 209, 210, 211, 212, 213, 214, 215, 216, 217, 218, 219, 220, 221, 222, 223, 224, 225, 226, 227, 203, 161, 230] s s := fm_rf _ _ s
  have b1 := bi_28 I
  have b2 := bi_97 I
  have b3 := bi_12 I
  have b4 := bi_89 I
  refine z_aload_n X (x := A 0) rfl (List.Mem.tail _ (List.Mem.head _)) (z_aload_n X (x := q1) rfl (List.Mem.head _) (z_load X (x := i) rfl (List.Mem.tail _ (List.Mem.tail _ (List.Mem.tail _ (List.Mem.tail _ (List.Mem.head _))))) (z_const X rfl (z_add X rfl (z_sld X S hL rfl (show 0 ≤ (i + 1) ∧ (i + 1) < (L : Int) by first | exact sx_in hi (by decide) | omega) ?_)))))
  have sr5 : rng (sc xs (i + 1)) := sc_rng
  refine z_aload_n X (x := q1) rfl (List.Mem.head _) (z_load X (x := i) rfl (List.Mem.tail _ (List.Mem.tail _ (List.Mem.tail _ (List.Mem.tail _ (List.Mem.head _))))) (z_const X rfl (z_add X rfl (z_sld X S hL rfl (show 0 ≤ (i + 2) ∧ (i + 2) < (L : Int) by first | exact sx_in hi (by decide) | omega) ?_))))
  have sr6 : rng (sc xs (i + 2)) := sc_rng
  refine z_aload_n X (x := q1) rfl (List.Mem.head _) (z_load X (x := i) rfl (List.Mem.tail _ (List.Mem.tail _ (List.Mem.tail _ (List.Mem.tail _ (List.Mem.head _))))) (z_const X rfl (z_add X rfl (z_sld X S hL rfl (show 0 ≤ (i + 3) ∧ (i + 3) < (L : Int) by first | exact sx_in hi (by decide) | omega) ?_))))
  have sr7 : rng (sc xs (i + 3)) := sc_rng
  refine z_aload_n X (x := A 517) rfl (List.Mem.tail _ (List.Mem.tail _ (List.Mem.tail _ (List.Mem.head _)))) (z_callL X (rm := rmN 323) (As := [.ref (A 0), .int (Int32.ofInt (sc xs (i + 1))), .int (Int32.ofInt (sc xs (i + 2))), .int (Int32.ofInt (sc xs (i + 3))), .ref (A 517)]) (st := []) rfl (by decide) rfl (by rw [E.1, E.2.1, E.2.2.1]; exact lw_hears G I (by omega) (by omega) (by omega)) ⟨by rw [E.2.2.2]; exact (show 11 + 1 ≤ 2048 by decide), by rw [E.2.2.2]; exact (show 8 + (6 + 11) + 229 ≤ 84000 by decide), by rw [E.2.2.2]; exact (show ce + 3 ≤ 601024 by first | exact rmo_1 hce (by decide) | exact rmo_2 hce (by decide) | omega), by rw [E.2.2.2]; exact (show sl + 18 ≤ 7293034 by first | exact rmo_1 hsl (by decide) | exact rmo_2 hsl (by decide) | omega)⟩ (Nat.le_of_ble_eq_true rfl) (fun vv A s8 hA2 hq => ?_) (fun ee A s8 hA2 hq => ?_))
  rotate_left
  · obtain ⟨Is8, Fs8, e9, hv, hrs8, hps8⟩ := hq; cases hv
  obtain ⟨Is8, Fs8, e9, hv, hrs8, hps8⟩ := hq
  cases hv
  rw [← hA2 0 (by decide)]
  rw [← hA2 179 (by decide)]
  rw [← hA2 517 (by decide)]
  have Gs8 := fm_tq F Fs8 rfl rfl
  have JRLx_s8 : RLx s8 := RLx_fm Fs8 (by decide) jR
  have JREQ_s8 : REQ 39 234 28 s8 := REQ_fm Fs8 (by decide) jREQ
  have ws8_28 : iI s8 28 = iI s 28 := fm_iq Fs8 rfl
  have ws8_97 : iI s8 97 = iI s 97 := fm_iq Fs8 rfl
  have ws8_12 : iI s8 12 = iI s 12 := fm_iq Fs8 rfl
  have ws8_89 : iI s8 89 = iI s 89 := fm_iq Fs8 rfl
  show WS k 719 [(0, .ref q1), (1, .ref (A 0)), (2, .ref (A 179)), (3, .ref (A 517)), (4, .int (Int32.ofInt i))] [.int (Int32.ofInt e9)] (Wd A dT s8) (ce + 3) (sl + 18)
  refine z_store X (lv' := [(5, .int (Int32.ofInt e9)), (0, .ref q1), (1, .ref (A 0)), (2, .ref (A 179)), (3, .ref (A 517)), (4, .int (Int32.ofInt i))]) rfl (by decide) (fun _ h => h) (z_aload_n X (x := A 179) rfl (List.Mem.tail _ (List.Mem.tail _ (List.Mem.tail _ (List.Mem.head _)))) (z_aload_n X (x := q1) rfl (List.Mem.tail _ (List.Mem.head _)) (z_load X (x := i) rfl (List.Mem.tail _ (List.Mem.tail _ (List.Mem.tail _ (List.Mem.tail _ (List.Mem.tail _ (List.Mem.head _)))))) (z_const X rfl (z_add X rfl (z_sld X S hL rfl (show 0 ≤ (i + 1) ∧ (i + 1) < (L : Int) by first | exact sx_in hi (by decide) | omega) ?_))))))
  have sr10 : rng (sc xs (i + 1)) := sc_rng
  refine z_aload_n X (x := q1) rfl (List.Mem.tail _ (List.Mem.head _)) (z_load X (x := i) rfl (List.Mem.tail _ (List.Mem.tail _ (List.Mem.tail _ (List.Mem.tail _ (List.Mem.tail _ (List.Mem.head _)))))) (z_const X rfl (z_add X rfl (z_sld X S hL rfl (show 0 ≤ (i + 2) ∧ (i + 2) < (L : Int) by first | exact sx_in hi (by decide) | omega) ?_))))
  have sr11 : rng (sc xs (i + 2)) := sc_rng
  refine z_aload_n X (x := q1) rfl (List.Mem.tail _ (List.Mem.head _)) (z_load X (x := i) rfl (List.Mem.tail _ (List.Mem.tail _ (List.Mem.tail _ (List.Mem.tail _ (List.Mem.tail _ (List.Mem.head _)))))) (z_const X rfl (z_add X rfl (z_sld X S hL rfl (show 0 ≤ (i + 3) ∧ (i + 3) < (L : Int) by first | exact sx_in hi (by decide) | omega) ?_))))
  have sr12 : rng (sc xs (i + 3)) := sc_rng
  refine z_callV X 179 (rm := rmN 237) (As := [.int (Int32.ofInt (sc xs (i + 1))), .int (Int32.ofInt (sc xs (i + 2))), .int (Int32.ofInt (sc xs (i + 3)))]) (st := []) rfl rfl (by decide) rfl (by rw [E.1, E.2.1, E.2.2.1]; exact k_hears G Is8 JRLx_s8 (by first | exact ⟨sr10.1, sr10.2⟩ | omega) (by first | exact ⟨sr11.1, sr11.2⟩ | omega) (by first | exact ⟨sr12.1, sr12.2⟩ | omega)) ⟨by rw [E.2.2.2]; exact (show 37 + 1 ≤ 2048 from oq_2596b3cb), by rw [E.2.2.2]; exact (show 8 + (5 + 11) + 1578 ≤ 84000 from oq_93887b04), by rw [E.2.2.2]; exact (show (ce + 3) + 0 ≤ 601024 by omega), by rw [E.2.2.2]; exact (show (sl + 18) + 0 ≤ 7293034 by omega)⟩ (Nat.le_of_ble_eq_true rfl) (fun vv s13 hq => ?_) (fun ee s13 hq => ?_)
  rotate_left
  · obtain ⟨Is13, Fs13, JRLx_s13, e14, hv, hrs13, hps13⟩ := hq; cases hv
  obtain ⟨Is13, Fs13, JRLx_s13, e14, hv, hrs13, hps13⟩ := hq
  cases hv
  have Gs13 := fm_tq Gs8 Fs13 rfl rfl
  have JRLx_s13 : RLx s13 := RLx_fm Fs13 (by decide) JRLx_s8
  have JREQ_s13 : REQ 39 234 28 s13 := REQ_fm Fs13 (by decide) JREQ_s8
  have ws13_28 : iI s13 28 = iI s8 28 := fm_iq Fs13 rfl
  have ws13_97 : iI s13 97 = iI s8 97 := fm_iq Fs13 rfl
  have ws13_12 : iI s13 12 = iI s8 12 := fm_iq Fs13 rfl
  have ws13_89 : iI s13 89 = iI s8 89 := fm_iq Fs13 rfl
  have wos13 : iO s13 = iO s8 := fm_o Fs13 (by decide)
  show WS k 743 [(5, .int (Int32.ofInt e9)), (0, .ref q1), (1, .ref (A 0)), (2, .ref (A 179)), (3, .ref (A 517)), (4, .int (Int32.ofInt i))] [.int (Int32.ofInt e14)] (Wd A dT s13) (ce + 3) (sl + 18)
  refine z_store X (lv' := [(6, .int (Int32.ofInt e14)), (5, .int (Int32.ofInt e9)), (0, .ref q1), (1, .ref (A 0)), (2, .ref (A 179)), (3, .ref (A 517)), (4, .int (Int32.ofInt i))]) rfl (by decide) (fun _ h => h) (z_goto X (t := 1866) rfl rfl (w_widen (ce' := ce + 29) (sl' := sl + 222) (by first | exact Nat.le_add_right _ _ | exact Nat.add_le_add_left (by decide) _ | omega) (by first | exact Nat.le_add_right _ _ | exact Nat.add_le_add_left (by decide) _ | omega) ?_))
  exact WS_lv (lv := [(0, .ref q1), (1, .ref (A 0)), (2, .ref (A 179)), (3, .ref (A 517)), (4, .int (Int32.ofInt i))]) (List.forall_mem_cons.mpr ⟨(List.Mem.tail _ (List.Mem.tail _ (List.Mem.head _))), (List.forall_mem_cons.mpr ⟨(List.Mem.tail _ (List.Mem.tail _ (List.Mem.tail _ (List.Mem.head _)))), (List.forall_mem_cons.mpr ⟨(List.Mem.tail _ (List.Mem.tail _ (List.Mem.tail _ (List.Mem.tail _ (List.Mem.head _))))), (List.forall_mem_cons.mpr ⟨(List.Mem.tail _ (List.Mem.tail _ (List.Mem.tail _ (List.Mem.tail _ (List.Mem.tail _ (List.Mem.head _)))))), (List.forall_mem_cons.mpr ⟨(List.Mem.tail _ (List.Mem.tail _ (List.Mem.tail _ (List.Mem.tail _ (List.Mem.tail _ (List.Mem.tail _ (List.Mem.head _))))))), (fun q h => absurd h List.not_mem_nil)⟩)⟩)⟩)⟩)⟩) (hk A _ Is13 JRLx_s13 JREQ_s13 (by first | exact oq_f34933ba ws13_89 ws8_89 p1 b4.1 | omega) (by first | exact oq_d7ce4408 ws13_12 ws8_12 p2 | omega) (by first | exact oq_5bcdc35f ws13_97 ws13_28 ws8_97 ws8_28 p3 | omega))
theorem lc_12 (G : GX l s0 D tys a0 dT) (GR : RS0 s0) (SF : SF0 s0) (GT : TXs0 s0) {k : kx_T} (X : AX k 350 dT) (E : kL k = l ∧ kS0 k = s0 ∧ kD k = D ∧ kR k = room_1) {q1 L : Nat} {xs : Nat → Int32} (S : SX k q1 L xs) (hL : L ≤ 3072) (I : Bd s) (jR : RLx s) (jREQ : REQ 39 234 28 s) (p1 : iI s 89 = 1) (p2 : iI s 12 ≤ 8) (p3 : iI s 28 = iI s 97) {i : Int} (hi : 0 ≤ i ∧ i + 6 ≤ (L : Int)) {ce sl : Nat} (hce : ce + 29 ≤ 601024) (hsl : sl + 222 ≤ 7293034) (hk : ∀ (A : Nat → Nat) (t : PS), Bd t → RLx t → REQ 39 234 28 t → iI t 89 = 1 → iI t 12 ≤ 8 → iI t 28 = iI t 97 → WS k 1866 [(0, .ref q1), (1, .ref (A 0)), (2, .ref (A 179)), (3, .ref (A 517)), (4, .int (Int32.ofInt i))] [] (Wd A dT t) (ce + 29) (sl + 222)) : WS k 748 [(0, .ref q1), (1, .ref (A 0)), (2, .ref (A 179)), (3, .ref (A 517)), (4, .int (Int32.ofInt i))] [] (Wd A dT s) ce sl := by
  have F : Fm [22, 23, 24, 73, 77, 75, 78, 79, 80, 81] [33, 26, 27, 28, 29, 30, 31, 32, 20, 1460, 202, 204, 205, 206, 207, 208, 209, 210, 211, 212, 213, 214, 215, 216, 217, 218, 219, 220, 221, 222, 223, 224, 225, 226, 227, 203, 161, 230] s s := fm_rf _ _ s
  have b1 := bi_28 I
  have b2 := bi_97 I
  have b3 := bi_12 I
  have b4 := bi_89 I
  refine z_aload_n X (x := A 0) rfl (List.Mem.tail _ (List.Mem.head _)) (z_aload_n X (x := q1) rfl (List.Mem.head _) (z_load X (x := i) rfl (List.Mem.tail _ (List.Mem.tail _ (List.Mem.tail _ (List.Mem.tail _ (List.Mem.head _))))) (z_const X rfl (z_add X rfl (z_sld X S hL rfl (show 0 ≤ (i + 1) ∧ (i + 1) < (L : Int) by first | exact sx_in hi (by decide) | omega) ?_)))))
  have sr5 : rng (sc xs (i + 1)) := sc_rng
  refine z_aload_n X (x := q1) rfl (List.Mem.head _) (z_load X (x := i) rfl (List.Mem.tail _ (List.Mem.tail _ (List.Mem.tail _ (List.Mem.tail _ (List.Mem.head _))))) (z_const X rfl (z_add X rfl (z_sld X S hL rfl (show 0 ≤ (i + 2) ∧ (i + 2) < (L : Int) by first | exact sx_in hi (by decide) | omega) ?_))))
  have sr6 : rng (sc xs (i + 2)) := sc_rng
  refine z_aload_n X (x := A 517) rfl (List.Mem.tail _ (List.Mem.tail _ (List.Mem.tail _ (List.Mem.head _)))) (z_callL X (rm := rmN 324) (As := [.ref (A 0), .int (Int32.ofInt (sc xs (i + 1))), .int (Int32.ofInt (sc xs (i + 2))), .ref (A 517)]) (st := []) rfl (by decide) rfl (by rw [E.1, E.2.1, E.2.2.1]; exact lw_peak G I (by omega) (by omega)) ⟨by rw [E.2.2.2]; exact (show 11 + 1 ≤ 2048 by decide), by rw [E.2.2.2]; exact (show 8 + (5 + 11) + 228 ≤ 84000 by decide), by rw [E.2.2.2]; exact (show ce + 2 ≤ 601024 by first | exact rmo_1 hce (by decide) | exact rmo_2 hce (by decide) | omega), by rw [E.2.2.2]; exact (show sl + 12 ≤ 7293034 by first | exact rmo_1 hsl (by decide) | exact rmo_2 hsl (by decide) | omega)⟩ (Nat.le_of_ble_eq_true rfl) (fun vv A s7 hA2 hq => ?_) (fun ee A s7 hA2 hq => ?_))
  rotate_left
  · obtain ⟨Is7, Fs7, e8, hv, hrs7, hps7⟩ := hq; cases hv
  obtain ⟨Is7, Fs7, e8, hv, hrs7, hps7⟩ := hq
  cases hv
  rw [← hA2 0 (by decide)]
  rw [← hA2 179 (by decide)]
  rw [← hA2 517 (by decide)]
  have Gs7 := fm_tq F Fs7 rfl rfl
  have JRLx_s7 : RLx s7 := RLx_fm Fs7 (by decide) jR
  have JREQ_s7 : REQ 39 234 28 s7 := REQ_fm Fs7 (by decide) jREQ
  have ws7_28 : iI s7 28 = iI s 28 := fm_iq Fs7 rfl
  have ws7_97 : iI s7 97 = iI s 97 := fm_iq Fs7 rfl
  have ws7_12 : iI s7 12 = iI s 12 := fm_iq Fs7 rfl
  have ws7_89 : iI s7 89 = iI s 89 := fm_iq Fs7 rfl
  show WS k 765 [(0, .ref q1), (1, .ref (A 0)), (2, .ref (A 179)), (3, .ref (A 517)), (4, .int (Int32.ofInt i))] [.int (Int32.ofInt e8)] (Wd A dT s7) (ce + 2) (sl + 12)
  refine z_store X (lv' := [(5, .int (Int32.ofInt e8)), (0, .ref q1), (1, .ref (A 0)), (2, .ref (A 179)), (3, .ref (A 517)), (4, .int (Int32.ofInt i))]) rfl (by decide) (fun _ h => h) (z_aload_n X (x := A 179) rfl (List.Mem.tail _ (List.Mem.tail _ (List.Mem.tail _ (List.Mem.head _)))) (z_aload_n X (x := q1) rfl (List.Mem.tail _ (List.Mem.head _)) (z_load X (x := i) rfl (List.Mem.tail _ (List.Mem.tail _ (List.Mem.tail _ (List.Mem.tail _ (List.Mem.tail _ (List.Mem.head _)))))) (z_const X rfl (z_add X rfl (z_sld X S hL rfl (show 0 ≤ (i + 1) ∧ (i + 1) < (L : Int) by first | exact sx_in hi (by decide) | omega) ?_))))))
  have sr9 : rng (sc xs (i + 1)) := sc_rng
  refine z_aload_n X (x := q1) rfl (List.Mem.tail _ (List.Mem.head _)) (z_load X (x := i) rfl (List.Mem.tail _ (List.Mem.tail _ (List.Mem.tail _ (List.Mem.tail _ (List.Mem.tail _ (List.Mem.head _)))))) (z_const X rfl (z_add X rfl (z_sld X S hL rfl (show 0 ≤ (i + 2) ∧ (i + 2) < (L : Int) by first | exact sx_in hi (by decide) | omega) ?_))))
  have sr10 : rng (sc xs (i + 2)) := sc_rng
  refine z_callV X 179 (rm := rmN 238) (As := [.int (Int32.ofInt (sc xs (i + 1))), .int (Int32.ofInt (sc xs (i + 2)))]) (st := []) rfl rfl (by decide) rfl (by rw [E.1, E.2.1, E.2.2.1]; exact k_peak G Is7 JRLx_s7 (by first | exact ⟨sr9.1, sr9.2⟩ | omega) (by first | exact ⟨sr10.1, sr10.2⟩ | omega)) ⟨by rw [E.2.2.2]; exact (show 39 + 1 ≤ 2048 from oq_dead3895), by rw [E.2.2.2]; exact (show 8 + (5 + 11) + 1622 ≤ 84000 from oq_16841511), by rw [E.2.2.2]; exact (show (ce + 2) + 0 ≤ 601024 by omega), by rw [E.2.2.2]; exact (show (sl + 12) + 0 ≤ 7293034 by omega)⟩ (Nat.le_of_ble_eq_true rfl) (fun vv s11 hq => ?_) (fun ee s11 hq => ?_)
  rotate_left
  · obtain ⟨Is11, Fs11, JRLx_s11, e12, hv, hrs11, hps11⟩ := hq; cases hv
  obtain ⟨Is11, Fs11, JRLx_s11, e12, hv, hrs11, hps11⟩ := hq
  cases hv
  have Gs11 := fm_tq Gs7 Fs11 rfl rfl
  have JRLx_s11 : RLx s11 := RLx_fm Fs11 (by decide) JRLx_s7
  have JREQ_s11 : REQ 39 234 28 s11 := REQ_fm Fs11 (by decide) JREQ_s7
  have ws11_28 : iI s11 28 = iI s7 28 := fm_iq Fs11 rfl
  have ws11_97 : iI s11 97 = iI s7 97 := fm_iq Fs11 rfl
  have ws11_12 : iI s11 12 = iI s7 12 := fm_iq Fs11 rfl
  have ws11_89 : iI s11 89 = iI s7 89 := fm_iq Fs11 rfl
  have wos11 : iO s11 = iO s7 := fm_o Fs11 (by decide)
  show WS k 783 [(5, .int (Int32.ofInt e8)), (0, .ref q1), (1, .ref (A 0)), (2, .ref (A 179)), (3, .ref (A 517)), (4, .int (Int32.ofInt i))] [.int (Int32.ofInt e12)] (Wd A dT s11) (ce + 2) (sl + 12)
  refine z_store X (lv' := [(6, .int (Int32.ofInt e12)), (5, .int (Int32.ofInt e8)), (0, .ref q1), (1, .ref (A 0)), (2, .ref (A 179)), (3, .ref (A 517)), (4, .int (Int32.ofInt i))]) rfl (by decide) (fun _ h => h) (z_goto X (t := 1866) rfl rfl (w_widen (ce' := ce + 29) (sl' := sl + 222) (by first | exact Nat.le_add_right _ _ | exact Nat.add_le_add_left (by decide) _ | omega) (by first | exact Nat.le_add_right _ _ | exact Nat.add_le_add_left (by decide) _ | omega) ?_))
  exact WS_lv (lv := [(0, .ref q1), (1, .ref (A 0)), (2, .ref (A 179)), (3, .ref (A 517)), (4, .int (Int32.ofInt i))]) (List.forall_mem_cons.mpr ⟨(List.Mem.tail _ (List.Mem.tail _ (List.Mem.head _))), (List.forall_mem_cons.mpr ⟨(List.Mem.tail _ (List.Mem.tail _ (List.Mem.tail _ (List.Mem.head _)))), (List.forall_mem_cons.mpr ⟨(List.Mem.tail _ (List.Mem.tail _ (List.Mem.tail _ (List.Mem.tail _ (List.Mem.head _))))), (List.forall_mem_cons.mpr ⟨(List.Mem.tail _ (List.Mem.tail _ (List.Mem.tail _ (List.Mem.tail _ (List.Mem.tail _ (List.Mem.head _)))))), (List.forall_mem_cons.mpr ⟨(List.Mem.tail _ (List.Mem.tail _ (List.Mem.tail _ (List.Mem.tail _ (List.Mem.tail _ (List.Mem.tail _ (List.Mem.head _))))))), (fun q h => absurd h List.not_mem_nil)⟩)⟩)⟩)⟩)⟩) (hk A _ Is11 JRLx_s11 JREQ_s11 (by first | exact oq_f34933ba ws11_89 ws7_89 p1 b4.1 | omega) (by first | exact oq_d7ce4408 ws11_12 ws7_12 p2 | omega) (by first | exact oq_5bcdc35f ws11_97 ws11_28 ws7_97 ws7_28 p3 | omega))
theorem lc_13 (G : GX l s0 D tys a0 dT) (GR : RS0 s0) (SF : SF0 s0) (GT : TXs0 s0) {k : kx_T} (X : AX k 350 dT) (E : kL k = l ∧ kS0 k = s0 ∧ kD k = D ∧ kR k = room_1) {q1 L : Nat} {xs : Nat → Int32} (S : SX k q1 L xs) (hL : L ≤ 3072) (I : Bd s) (jR : RLx s) (jREQ : REQ 39 234 28 s) (p1 : iI s 89 = 1) (p2 : iI s 12 ≤ 8) (p3 : iI s 28 = iI s 97) {i : Int} (hi : 0 ≤ i ∧ i + 6 ≤ (L : Int)) {ce sl : Nat} (hce : ce + 29 ≤ 601024) (hsl : sl + 222 ≤ 7293034) (hk : ∀ (A : Nat → Nat) (t : PS), Bd t → RLx t → REQ 39 234 28 t → iI t 89 = 1 → iI t 12 ≤ 8 → iI t 28 = iI t 97 → WS k 1866 [(0, .ref q1), (1, .ref (A 0)), (2, .ref (A 179)), (3, .ref (A 517)), (4, .int (Int32.ofInt i))] [] (Wd A dT t) (ce + 29) (sl + 222)) : WS k 788 [(0, .ref q1), (1, .ref (A 0)), (2, .ref (A 179)), (3, .ref (A 517)), (4, .int (Int32.ofInt i))] [] (Wd A dT s) ce sl := by
  have F : Fm [73] [1460, 231, 232, 230] s s := fm_rf _ _ s
  have b1 := bi_28 I
  have b2 := bi_97 I
  have b3 := bi_12 I
  have b4 := bi_89 I
  refine z_aload_n X (x := A 0) rfl (List.Mem.tail _ (List.Mem.head _)) (z_aload_n X (x := q1) rfl (List.Mem.head _) (z_load X (x := i) rfl (List.Mem.tail _ (List.Mem.tail _ (List.Mem.tail _ (List.Mem.tail _ (List.Mem.head _))))) (z_const X rfl (z_add X rfl (z_sld X S hL rfl (show 0 ≤ (i + 1) ∧ (i + 1) < (L : Int) by first | exact sx_in hi (by decide) | omega) ?_)))))
  have sr5 : rng (sc xs (i + 1)) := sc_rng
  refine z_aload_n X (x := A 517) rfl (List.Mem.tail _ (List.Mem.tail _ (List.Mem.tail _ (List.Mem.head _)))) (z_callL X (rm := rmN 325) (As := [.ref (A 0), .int (Int32.ofInt (sc xs (i + 1))), .ref (A 517)]) (st := []) rfl (by decide) rfl (by rw [E.1, E.2.1, E.2.2.1]; exact lw_whole G I (by omega)) ⟨by rw [E.2.2.2]; exact (show 10 + 1 ≤ 2048 by decide), by rw [E.2.2.2]; exact (show 8 + (4 + 11) + 203 ≤ 84000 by decide), by rw [E.2.2.2]; exact (show ce + 1 ≤ 601024 by first | exact rmo_1 hce (by decide) | exact rmo_2 hce (by decide) | omega), by rw [E.2.2.2]; exact (show sl + 6 ≤ 7293034 by first | exact rmo_1 hsl (by decide) | exact rmo_2 hsl (by decide) | omega)⟩ (Nat.le_of_ble_eq_true rfl) (fun vv A s6 hA2 hq => ?_) (fun ee A s6 hA2 hq => ?_))
  rotate_left
  · obtain ⟨Is6, Fs6, e7, hv, hrs6, hps6⟩ := hq; cases hv
  obtain ⟨Is6, Fs6, e7, hv, hrs6, hps6⟩ := hq
  cases hv
  rw [← hA2 0 (by decide)]
  rw [← hA2 179 (by decide)]
  rw [← hA2 517 (by decide)]
  have Gs6 := fm_tq F Fs6 rfl rfl
  have JRLx_s6 : RLx s6 := RLx_fm Fs6 (by decide) jR
  have JREQ_s6 : REQ 39 234 28 s6 := REQ_fm Fs6 (by decide) jREQ
  have ws6_28 : iI s6 28 = iI s 28 := fm_iq Fs6 rfl
  have ws6_97 : iI s6 97 = iI s 97 := fm_iq Fs6 rfl
  have ws6_12 : iI s6 12 = iI s 12 := fm_iq Fs6 rfl
  have ws6_89 : iI s6 89 = iI s 89 := fm_iq Fs6 rfl
  show WS k 799 [(0, .ref q1), (1, .ref (A 0)), (2, .ref (A 179)), (3, .ref (A 517)), (4, .int (Int32.ofInt i))] [.int (Int32.ofInt e7)] (Wd A dT s6) (ce + 1) (sl + 6)
  refine z_store X (lv' := [(5, .int (Int32.ofInt e7)), (0, .ref q1), (1, .ref (A 0)), (2, .ref (A 179)), (3, .ref (A 517)), (4, .int (Int32.ofInt i))]) rfl (by decide) (fun _ h => h) (z_aload_n X (x := A 179) rfl (List.Mem.tail _ (List.Mem.tail _ (List.Mem.tail _ (List.Mem.head _)))) (z_aload_n X (x := q1) rfl (List.Mem.tail _ (List.Mem.head _)) (z_load X (x := i) rfl (List.Mem.tail _ (List.Mem.tail _ (List.Mem.tail _ (List.Mem.tail _ (List.Mem.tail _ (List.Mem.head _)))))) (z_const X rfl (z_add X rfl (z_sld X S hL rfl (show 0 ≤ (i + 1) ∧ (i + 1) < (L : Int) by first | exact sx_in hi (by decide) | omega) ?_))))))
  have sr8 : rng (sc xs (i + 1)) := sc_rng
  refine z_callV X 179 (rm := rmN 241) (As := [.int (Int32.ofInt (sc xs (i + 1)))]) (st := []) rfl rfl (by decide) rfl (by rw [E.1, E.2.1, E.2.2.1]; exact k_whole G Is6 (by first | exact ⟨sr8.1, sr8.2⟩ | omega)) ⟨by rw [E.2.2.2]; exact (show 9 + 1 ≤ 2048 from oq_1d601463), by rw [E.2.2.2]; exact (show 8 + (2 + 11) + 171 ≤ 84000 from oq_485672f1), by rw [E.2.2.2]; exact (show (ce + 1) + 0 ≤ 601024 by omega), by rw [E.2.2.2]; exact (show (sl + 6) + 0 ≤ 7293034 by omega)⟩ (Nat.le_of_ble_eq_true rfl) (fun vv s9 hq => ?_) (fun ee s9 hq => ?_)
  rotate_left
  · obtain ⟨Is9, Fs9, e10, hv, hrs9, hps9⟩ := hq; cases hv
  obtain ⟨Is9, Fs9, e10, hv, hrs9, hps9⟩ := hq
  cases hv
  have Gs9 := fm_tq Gs6 Fs9 rfl rfl
  have JRLx_s9 : RLx s9 := RLx_fm Fs9 (by decide) JRLx_s6
  have JREQ_s9 : REQ 39 234 28 s9 := REQ_fm Fs9 (by decide) JREQ_s6
  have ws9_28 : iI s9 28 = iI s6 28 := fm_iq Fs9 rfl
  have ws9_97 : iI s9 97 = iI s6 97 := fm_iq Fs9 rfl
  have ws9_12 : iI s9 12 = iI s6 12 := fm_iq Fs9 rfl
  have ws9_89 : iI s9 89 = iI s6 89 := fm_iq Fs9 rfl
  have wos9 : iO s9 = iO s6 := fm_o Fs9 (by decide)
  show WS k 811 [(5, .int (Int32.ofInt e7)), (0, .ref q1), (1, .ref (A 0)), (2, .ref (A 179)), (3, .ref (A 517)), (4, .int (Int32.ofInt i))] [.int (Int32.ofInt e10)] (Wd A dT s9) (ce + 1) (sl + 6)
  refine z_store X (lv' := [(6, .int (Int32.ofInt e10)), (5, .int (Int32.ofInt e7)), (0, .ref q1), (1, .ref (A 0)), (2, .ref (A 179)), (3, .ref (A 517)), (4, .int (Int32.ofInt i))]) rfl (by decide) (fun _ h => h) (z_goto X (t := 1866) rfl rfl (w_widen (ce' := ce + 29) (sl' := sl + 222) (by first | exact Nat.le_add_right _ _ | exact Nat.add_le_add_left (by decide) _ | omega) (by first | exact Nat.le_add_right _ _ | exact Nat.add_le_add_left (by decide) _ | omega) ?_))
  exact WS_lv (lv := [(0, .ref q1), (1, .ref (A 0)), (2, .ref (A 179)), (3, .ref (A 517)), (4, .int (Int32.ofInt i))]) (List.forall_mem_cons.mpr ⟨(List.Mem.tail _ (List.Mem.tail _ (List.Mem.head _))), (List.forall_mem_cons.mpr ⟨(List.Mem.tail _ (List.Mem.tail _ (List.Mem.tail _ (List.Mem.head _)))), (List.forall_mem_cons.mpr ⟨(List.Mem.tail _ (List.Mem.tail _ (List.Mem.tail _ (List.Mem.tail _ (List.Mem.head _))))), (List.forall_mem_cons.mpr ⟨(List.Mem.tail _ (List.Mem.tail _ (List.Mem.tail _ (List.Mem.tail _ (List.Mem.tail _ (List.Mem.head _)))))), (List.forall_mem_cons.mpr ⟨(List.Mem.tail _ (List.Mem.tail _ (List.Mem.tail _ (List.Mem.tail _ (List.Mem.tail _ (List.Mem.tail _ (List.Mem.head _))))))), (fun q h => absurd h List.not_mem_nil)⟩)⟩)⟩)⟩)⟩) (hk A _ Is9 JRLx_s9 JREQ_s9 (by first | exact oq_f34933ba ws9_89 ws6_89 p1 b4.1 | omega) (by first | exact oq_d7ce4408 ws9_12 ws6_12 p2 | omega) (by first | exact oq_5bcdc35f ws9_97 ws9_28 ws6_97 ws6_28 p3 | omega))
theorem lc_14 (G : GX l s0 D tys a0 dT) (GR : RS0 s0) (SF : SF0 s0) (GT : TXs0 s0) {k : kx_T} (X : AX k 350 dT) (E : kL k = l ∧ kS0 k = s0 ∧ kD k = D ∧ kR k = room_1) {q1 L : Nat} {xs : Nat → Int32} (S : SX k q1 L xs) (hL : L ≤ 3072) (I : Bd s) (jR : RLx s) (jREQ : REQ 39 234 28 s) (p1 : iI s 89 = 1) (p2 : iI s 12 ≤ 8) (p3 : iI s 28 = iI s 97) {i : Int} (hi : 0 ≤ i ∧ i + 6 ≤ (L : Int)) {ce sl : Nat} (hce : ce + 29 ≤ 601024) (hsl : sl + 222 ≤ 7293034) (hk : ∀ (A : Nat → Nat) (t : PS), Bd t → RLx t → REQ 39 234 28 t → iI t 89 = 1 → iI t 12 ≤ 8 → iI t 28 = iI t 97 → WS k 1866 [(0, .ref q1), (1, .ref (A 0)), (2, .ref (A 179)), (3, .ref (A 517)), (4, .int (Int32.ofInt i))] [] (Wd A dT t) (ce + 29) (sl + 222)) : WS k 816 [(0, .ref q1), (1, .ref (A 0)), (2, .ref (A 179)), (3, .ref (A 517)), (4, .int (Int32.ofInt i))] [] (Wd A dT s) ce sl := by
  have F : Fm [73] [1460, 231, 232, 230] s s := fm_rf _ _ s
  have b1 := bi_28 I
  have b2 := bi_97 I
  have b3 := bi_12 I
  have b4 := bi_89 I
  refine z_aload_n X (x := A 0) rfl (List.Mem.tail _ (List.Mem.head _)) (z_aload_n X (x := q1) rfl (List.Mem.head _) (z_load X (x := i) rfl (List.Mem.tail _ (List.Mem.tail _ (List.Mem.tail _ (List.Mem.tail _ (List.Mem.head _))))) (z_const X rfl (z_add X rfl (z_sld X S hL rfl (show 0 ≤ (i + 1) ∧ (i + 1) < (L : Int) by first | exact sx_in hi (by decide) | omega) ?_)))))
  have sr5 : rng (sc xs (i + 1)) := sc_rng
  refine z_aload_n X (x := q1) rfl (List.Mem.head _) (z_load X (x := i) rfl (List.Mem.tail _ (List.Mem.tail _ (List.Mem.tail _ (List.Mem.tail _ (List.Mem.head _))))) (z_const X rfl (z_add X rfl (z_sld X S hL rfl (show 0 ≤ (i + 2) ∧ (i + 2) < (L : Int) by first | exact sx_in hi (by decide) | omega) ?_))))
  have sr6 : rng (sc xs (i + 2)) := sc_rng
  refine z_aload_n X (x := A 517) rfl (List.Mem.tail _ (List.Mem.tail _ (List.Mem.tail _ (List.Mem.head _)))) (z_callL X (rm := rmN 326) (As := [.ref (A 0), .int (Int32.ofInt (sc xs (i + 1))), .int (Int32.ofInt (sc xs (i + 2))), .ref (A 517)]) (st := []) rfl (by decide) rfl (by rw [E.1, E.2.1, E.2.2.1]; exact lw_neck G I (by omega) (by omega)) ⟨by rw [E.2.2.2]; exact (show 11 + 1 ≤ 2048 by decide), by rw [E.2.2.2]; exact (show 8 + (5 + 11) + 235 ≤ 84000 by decide), by rw [E.2.2.2]; exact (show ce + 1 ≤ 601024 by first | exact rmo_1 hce (by decide) | exact rmo_2 hce (by decide) | omega), by rw [E.2.2.2]; exact (show sl + 6 ≤ 7293034 by first | exact rmo_1 hsl (by decide) | exact rmo_2 hsl (by decide) | omega)⟩ (Nat.le_of_ble_eq_true rfl) (fun vv A s7 hA2 hq => ?_) (fun ee A s7 hA2 hq => ?_))
  rotate_left
  · obtain ⟨Is7, Fs7, e8, hv, hrs7, hps7⟩ := hq; cases hv
  obtain ⟨Is7, Fs7, e8, hv, hrs7, hps7⟩ := hq
  cases hv
  rw [← hA2 0 (by decide)]
  rw [← hA2 179 (by decide)]
  rw [← hA2 517 (by decide)]
  have Gs7 := fm_tq F Fs7 rfl rfl
  have JRLx_s7 : RLx s7 := RLx_fm Fs7 (by decide) jR
  have JREQ_s7 : REQ 39 234 28 s7 := REQ_fm Fs7 (by decide) jREQ
  have ws7_28 : iI s7 28 = iI s 28 := fm_iq Fs7 rfl
  have ws7_97 : iI s7 97 = iI s 97 := fm_iq Fs7 rfl
  have ws7_12 : iI s7 12 = iI s 12 := fm_iq Fs7 rfl
  have ws7_89 : iI s7 89 = iI s 89 := fm_iq Fs7 rfl
  show WS k 833 [(0, .ref q1), (1, .ref (A 0)), (2, .ref (A 179)), (3, .ref (A 517)), (4, .int (Int32.ofInt i))] [.int (Int32.ofInt e8)] (Wd A dT s7) (ce + 1) (sl + 6)
  refine z_store X (lv' := [(5, .int (Int32.ofInt e8)), (0, .ref q1), (1, .ref (A 0)), (2, .ref (A 179)), (3, .ref (A 517)), (4, .int (Int32.ofInt i))]) rfl (by decide) (fun _ h => h) (z_aload_n X (x := A 179) rfl (List.Mem.tail _ (List.Mem.tail _ (List.Mem.tail _ (List.Mem.head _)))) (z_aload_n X (x := q1) rfl (List.Mem.tail _ (List.Mem.head _)) (z_load X (x := i) rfl (List.Mem.tail _ (List.Mem.tail _ (List.Mem.tail _ (List.Mem.tail _ (List.Mem.tail _ (List.Mem.head _)))))) (z_const X rfl (z_add X rfl (z_sld X S hL rfl (show 0 ≤ (i + 1) ∧ (i + 1) < (L : Int) by first | exact sx_in hi (by decide) | omega) ?_))))))
  have sr9 : rng (sc xs (i + 1)) := sc_rng
  refine z_aload_n X (x := q1) rfl (List.Mem.tail _ (List.Mem.head _)) (z_load X (x := i) rfl (List.Mem.tail _ (List.Mem.tail _ (List.Mem.tail _ (List.Mem.tail _ (List.Mem.tail _ (List.Mem.head _)))))) (z_const X rfl (z_add X rfl (z_sld X S hL rfl (show 0 ≤ (i + 2) ∧ (i + 2) < (L : Int) by first | exact sx_in hi (by decide) | omega) ?_))))
  have sr10 : rng (sc xs (i + 2)) := sc_rng
  refine z_callV X 179 (rm := rmN 242) (As := [.int (Int32.ofInt (sc xs (i + 1))), .int (Int32.ofInt (sc xs (i + 2)))]) (st := []) rfl rfl (by decide) rfl (by rw [E.1, E.2.1, E.2.2.1]; exact k_neck G Is7 (by first | exact ⟨sr9.1, sr9.2⟩ | omega) (by first | exact ⟨sr10.1, sr10.2⟩ | omega)) ⟨by rw [E.2.2.2]; exact (show 9 + 1 ≤ 2048 from oq_1d601463), by rw [E.2.2.2]; exact (show 8 + (6 + 11) + 171 ≤ 84000 from oq_da2b07c8), by rw [E.2.2.2]; exact (show (ce + 1) + 0 ≤ 601024 by omega), by rw [E.2.2.2]; exact (show (sl + 6) + 0 ≤ 7293034 by omega)⟩ (Nat.le_of_ble_eq_true rfl) (fun vv s11 hq => ?_) (fun ee s11 hq => ?_)
  rotate_left
  · obtain ⟨Is11, Fs11, e12, hv, hrs11, hps11⟩ := hq; cases hv
  obtain ⟨Is11, Fs11, e12, hv, hrs11, hps11⟩ := hq
  cases hv
  have Gs11 := fm_tq Gs7 Fs11 rfl rfl
  have JRLx_s11 : RLx s11 := RLx_fm Fs11 (by decide) JRLx_s7
  have JREQ_s11 : REQ 39 234 28 s11 := REQ_fm Fs11 (by decide) JREQ_s7
  have ws11_28 : iI s11 28 = iI s7 28 := fm_iq Fs11 rfl
  have ws11_97 : iI s11 97 = iI s7 97 := fm_iq Fs11 rfl
  have ws11_12 : iI s11 12 = iI s7 12 := fm_iq Fs11 rfl
  have ws11_89 : iI s11 89 = iI s7 89 := fm_iq Fs11 rfl
  have wos11 : iO s11 = iO s7 := fm_o Fs11 (by decide)
  show WS k 851 [(5, .int (Int32.ofInt e8)), (0, .ref q1), (1, .ref (A 0)), (2, .ref (A 179)), (3, .ref (A 517)), (4, .int (Int32.ofInt i))] [.int (Int32.ofInt e12)] (Wd A dT s11) (ce + 1) (sl + 6)
  refine z_store X (lv' := [(6, .int (Int32.ofInt e12)), (5, .int (Int32.ofInt e8)), (0, .ref q1), (1, .ref (A 0)), (2, .ref (A 179)), (3, .ref (A 517)), (4, .int (Int32.ofInt i))]) rfl (by decide) (fun _ h => h) (z_goto X (t := 1866) rfl rfl (w_widen (ce' := ce + 29) (sl' := sl + 222) (by first | exact Nat.le_add_right _ _ | exact Nat.add_le_add_left (by decide) _ | omega) (by first | exact Nat.le_add_right _ _ | exact Nat.add_le_add_left (by decide) _ | omega) ?_))
  exact WS_lv (lv := [(0, .ref q1), (1, .ref (A 0)), (2, .ref (A 179)), (3, .ref (A 517)), (4, .int (Int32.ofInt i))]) (List.forall_mem_cons.mpr ⟨(List.Mem.tail _ (List.Mem.tail _ (List.Mem.head _))), (List.forall_mem_cons.mpr ⟨(List.Mem.tail _ (List.Mem.tail _ (List.Mem.tail _ (List.Mem.head _)))), (List.forall_mem_cons.mpr ⟨(List.Mem.tail _ (List.Mem.tail _ (List.Mem.tail _ (List.Mem.tail _ (List.Mem.head _))))), (List.forall_mem_cons.mpr ⟨(List.Mem.tail _ (List.Mem.tail _ (List.Mem.tail _ (List.Mem.tail _ (List.Mem.tail _ (List.Mem.head _)))))), (List.forall_mem_cons.mpr ⟨(List.Mem.tail _ (List.Mem.tail _ (List.Mem.tail _ (List.Mem.tail _ (List.Mem.tail _ (List.Mem.tail _ (List.Mem.head _))))))), (fun q h => absurd h List.not_mem_nil)⟩)⟩)⟩)⟩)⟩) (hk A _ Is11 JRLx_s11 JREQ_s11 (by first | exact oq_f34933ba ws11_89 ws7_89 p1 b4.1 | omega) (by first | exact oq_d7ce4408 ws11_12 ws7_12 p2 | omega) (by first | exact oq_5bcdc35f ws11_97 ws11_28 ws7_97 ws7_28 p3 | omega))
theorem lc_15 (G : GX l s0 D tys a0 dT) (GR : RS0 s0) (SF : SF0 s0) (GT : TXs0 s0) {k : kx_T} (X : AX k 350 dT) (E : kL k = l ∧ kS0 k = s0 ∧ kD k = D ∧ kR k = room_1) {q1 L : Nat} {xs : Nat → Int32} (S : SX k q1 L xs) (hL : L ≤ 3072) (I : Bd s) (jR : RLx s) (jREQ : REQ 39 234 28 s) (p1 : iI s 89 = 1) (p2 : iI s 12 ≤ 8) (p3 : iI s 28 = iI s 97) {i : Int} (hi : 0 ≤ i ∧ i + 6 ≤ (L : Int)) {ce sl : Nat} (hce : ce + 29 ≤ 601024) (hsl : sl + 222 ≤ 7293034) (hk : ∀ (A : Nat → Nat) (t : PS), Bd t → RLx t → REQ 39 234 28 t → iI t 89 = 1 → iI t 12 ≤ 8 → iI t 28 = iI t 97 → WS k 1866 [(0, .ref q1), (1, .ref (A 0)), (2, .ref (A 179)), (3, .ref (A 517)), (4, .int (Int32.ofInt i))] [] (Wd A dT t) (ce + 29) (sl + 222)) : WS k 856 [(0, .ref q1), (1, .ref (A 0)), (2, .ref (A 179)), (3, .ref (A 517)), (4, .int (Int32.ofInt i))] [] (Wd A dT s) ce sl := by
  have F : Fm [73] [1460] s s := fm_rf _ _ s
  have b1 := bi_28 I
  have b2 := bi_97 I
  have b3 := bi_12 I
  have b4 := bi_89 I
  refine z_aload_n X (x := A 0) rfl (List.Mem.tail _ (List.Mem.head _)) (z_aload_n X (x := q1) rfl (List.Mem.head _) (z_load X (x := i) rfl (List.Mem.tail _ (List.Mem.tail _ (List.Mem.tail _ (List.Mem.tail _ (List.Mem.head _))))) (z_const X rfl (z_add X rfl (z_sld X S hL rfl (show 0 ≤ (i + 1) ∧ (i + 1) < (L : Int) by first | exact sx_in hi (by decide) | omega) ?_)))))
  have sr5 : rng (sc xs (i + 1)) := sc_rng
  refine z_aload_n X (x := A 517) rfl (List.Mem.tail _ (List.Mem.tail _ (List.Mem.tail _ (List.Mem.head _)))) (z_callL X (rm := rmN 327) (As := [.ref (A 0), .int (Int32.ofInt (sc xs (i + 1))), .ref (A 517)]) (st := []) rfl (by decide) rfl (by rw [E.1, E.2.1, E.2.2.1]; exact lw_shorts G I (by omega)) ⟨by rw [E.2.2.2]; exact (show 10 + 1 ≤ 2048 by decide), by rw [E.2.2.2]; exact (show 8 + (4 + 11) + 198 ≤ 84000 by decide), by rw [E.2.2.2]; exact (show ce + 1 ≤ 601024 by first | exact rmo_1 hce (by decide) | exact rmo_2 hce (by decide) | omega), by rw [E.2.2.2]; exact (show sl + 6 ≤ 7293034 by first | exact rmo_1 hsl (by decide) | exact rmo_2 hsl (by decide) | omega)⟩ (Nat.le_of_ble_eq_true rfl) (fun vv A s6 hA2 hq => ?_) (fun ee A s6 hA2 hq => ?_))
  rotate_left
  · obtain ⟨Is6, Fs6, e7, hv, hrs6, hps6⟩ := hq; cases hv
  obtain ⟨Is6, Fs6, e7, hv, hrs6, hps6⟩ := hq
  cases hv
  rw [← hA2 0 (by decide)]
  rw [← hA2 179 (by decide)]
  rw [← hA2 517 (by decide)]
  have Gs6 := fm_tq F Fs6 rfl rfl
  have JRLx_s6 : RLx s6 := RLx_fm Fs6 (by decide) jR
  have JREQ_s6 : REQ 39 234 28 s6 := REQ_fm Fs6 (by decide) jREQ
  have ws6_28 : iI s6 28 = iI s 28 := fm_iq Fs6 rfl
  have ws6_97 : iI s6 97 = iI s 97 := fm_iq Fs6 rfl
  have ws6_12 : iI s6 12 = iI s 12 := fm_iq Fs6 rfl
  have ws6_89 : iI s6 89 = iI s 89 := fm_iq Fs6 rfl
  show WS k 867 [(0, .ref q1), (1, .ref (A 0)), (2, .ref (A 179)), (3, .ref (A 517)), (4, .int (Int32.ofInt i))] [.int (Int32.ofInt e7)] (Wd A dT s6) (ce + 1) (sl + 6)
  refine z_store X (lv' := [(5, .int (Int32.ofInt e7)), (0, .ref q1), (1, .ref (A 0)), (2, .ref (A 179)), (3, .ref (A 517)), (4, .int (Int32.ofInt i))]) rfl (by decide) (fun _ h => h) (z_aload_n X (x := A 179) rfl (List.Mem.tail _ (List.Mem.tail _ (List.Mem.tail _ (List.Mem.head _)))) (z_aload_n X (x := q1) rfl (List.Mem.tail _ (List.Mem.head _)) (z_load X (x := i) rfl (List.Mem.tail _ (List.Mem.tail _ (List.Mem.tail _ (List.Mem.tail _ (List.Mem.tail _ (List.Mem.head _)))))) (z_const X rfl (z_add X rfl (z_sld X S hL rfl (show 0 ≤ (i + 1) ∧ (i + 1) < (L : Int) by first | exact sx_in hi (by decide) | omega) ?_))))))
  have sr8 : rng (sc xs (i + 1)) := sc_rng
  refine z_callV X 179 (rm := rmN 243) (As := [.int (Int32.ofInt (sc xs (i + 1)))]) (st := []) rfl rfl (by decide) rfl (by rw [E.1, E.2.1, E.2.2.1]; exact k_shorts G Is6 (by first | exact ⟨sr8.1, sr8.2⟩ | omega)) ⟨by rw [E.2.2.2]; exact (show 7 + 1 ≤ 2048 from oq_4e6106eb), by rw [E.2.2.2]; exact (show 8 + (7 + 11) + 122 ≤ 84000 from oq_f75bb075), by rw [E.2.2.2]; exact (show (ce + 1) + 0 ≤ 601024 by omega), by rw [E.2.2.2]; exact (show (sl + 6) + 0 ≤ 7293034 by omega)⟩ (Nat.le_of_ble_eq_true rfl) (fun vv s9 hq => ?_) (fun ee s9 hq => ?_)
  rotate_left
  · obtain ⟨Is9, Fs9, e10, hv, hrs9, hps9⟩ := hq; cases hv
  obtain ⟨Is9, Fs9, e10, hv, hrs9, hps9⟩ := hq
  cases hv
  have Gs9 := fm_tq Gs6 Fs9 rfl rfl
  have JRLx_s9 : RLx s9 := RLx_fm Fs9 (by decide) JRLx_s6
  have JREQ_s9 : REQ 39 234 28 s9 := REQ_fm Fs9 (by decide) JREQ_s6
  have ws9_28 : iI s9 28 = iI s6 28 := fm_iq Fs9 rfl
  have ws9_97 : iI s9 97 = iI s6 97 := fm_iq Fs9 rfl
  have ws9_12 : iI s9 12 = iI s6 12 := fm_iq Fs9 rfl
  have ws9_89 : iI s9 89 = iI s6 89 := fm_iq Fs9 rfl
  have wos9 : iO s9 = iO s6 := fm_o Fs9 (by decide)
  show WS k 879 [(5, .int (Int32.ofInt e7)), (0, .ref q1), (1, .ref (A 0)), (2, .ref (A 179)), (3, .ref (A 517)), (4, .int (Int32.ofInt i))] [.int (Int32.ofInt e10)] (Wd A dT s9) (ce + 1) (sl + 6)
  refine z_store X (lv' := [(6, .int (Int32.ofInt e10)), (5, .int (Int32.ofInt e7)), (0, .ref q1), (1, .ref (A 0)), (2, .ref (A 179)), (3, .ref (A 517)), (4, .int (Int32.ofInt i))]) rfl (by decide) (fun _ h => h) (z_goto X (t := 1866) rfl rfl (w_widen (ce' := ce + 29) (sl' := sl + 222) (by first | exact Nat.le_add_right _ _ | exact Nat.add_le_add_left (by decide) _ | omega) (by first | exact Nat.le_add_right _ _ | exact Nat.add_le_add_left (by decide) _ | omega) ?_))
  exact WS_lv (lv := [(0, .ref q1), (1, .ref (A 0)), (2, .ref (A 179)), (3, .ref (A 517)), (4, .int (Int32.ofInt i))]) (List.forall_mem_cons.mpr ⟨(List.Mem.tail _ (List.Mem.tail _ (List.Mem.head _))), (List.forall_mem_cons.mpr ⟨(List.Mem.tail _ (List.Mem.tail _ (List.Mem.tail _ (List.Mem.head _)))), (List.forall_mem_cons.mpr ⟨(List.Mem.tail _ (List.Mem.tail _ (List.Mem.tail _ (List.Mem.tail _ (List.Mem.head _))))), (List.forall_mem_cons.mpr ⟨(List.Mem.tail _ (List.Mem.tail _ (List.Mem.tail _ (List.Mem.tail _ (List.Mem.tail _ (List.Mem.head _)))))), (List.forall_mem_cons.mpr ⟨(List.Mem.tail _ (List.Mem.tail _ (List.Mem.tail _ (List.Mem.tail _ (List.Mem.tail _ (List.Mem.tail _ (List.Mem.head _))))))), (fun q h => absurd h List.not_mem_nil)⟩)⟩)⟩)⟩)⟩) (hk A _ Is9 JRLx_s9 JREQ_s9 (by first | exact oq_f34933ba ws9_89 ws6_89 p1 b4.1 | omega) (by first | exact oq_d7ce4408 ws9_12 ws6_12 p2 | omega) (by first | exact oq_5bcdc35f ws9_97 ws9_28 ws6_97 ws6_28 p3 | omega))
theorem lc_16 (G : GX l s0 D tys a0 dT) (GR : RS0 s0) (SF : SF0 s0) (GT : TXs0 s0) {k : kx_T} (X : AX k 350 dT) (E : kL k = l ∧ kS0 k = s0 ∧ kD k = D ∧ kR k = room_1) {q1 L : Nat} {xs : Nat → Int32} (S : SX k q1 L xs) (hL : L ≤ 3072) (I : Bd s) (jR : RLx s) (jREQ : REQ 39 234 28 s) (p1 : iI s 89 = 1) (p2 : iI s 12 ≤ 8) (p3 : iI s 28 = iI s 97) {i : Int} (hi : 0 ≤ i ∧ i + 6 ≤ (L : Int)) {ce sl : Nat} (hce : ce + 29 ≤ 601024) (hsl : sl + 222 ≤ 7293034) (hk : ∀ (A : Nat → Nat) (t : PS), Bd t → RLx t → REQ 39 234 28 t → iI t 89 = 1 → iI t 12 ≤ 8 → iI t 28 = iI t 97 → WS k 1866 [(0, .ref q1), (1, .ref (A 0)), (2, .ref (A 179)), (3, .ref (A 517)), (4, .int (Int32.ofInt i))] [] (Wd A dT t) (ce + 29) (sl + 222)) : WS k 884 [(0, .ref q1), (1, .ref (A 0)), (2, .ref (A 179)), (3, .ref (A 517)), (4, .int (Int32.ofInt i))] [] (Wd A dT s) ce sl := by
  have F : Fm [21, 73, 95] [1460] s s := fm_rf _ _ s
  have b1 := bi_28 I
  have b2 := bi_97 I
  have b3 := bi_12 I
  have b4 := bi_89 I
  refine z_aload_n X (x := A 0) rfl (List.Mem.tail _ (List.Mem.head _)) (z_aload_n X (x := q1) rfl (List.Mem.head _) (z_load X (x := i) rfl (List.Mem.tail _ (List.Mem.tail _ (List.Mem.tail _ (List.Mem.tail _ (List.Mem.head _))))) (z_const X rfl (z_add X rfl (z_sld X S hL rfl (show 0 ≤ (i + 1) ∧ (i + 1) < (L : Int) by first | exact sx_in hi (by decide) | omega) ?_)))))
  have sr5 : rng (sc xs (i + 1)) := sc_rng
  refine z_aload_n X (x := A 517) rfl (List.Mem.tail _ (List.Mem.tail _ (List.Mem.tail _ (List.Mem.head _)))) (z_callL X (rm := rmN 328) (As := [.ref (A 0), .int (Int32.ofInt (sc xs (i + 1))), .ref (A 517)]) (st := []) rfl (by decide) rfl (by rw [E.1, E.2.1, E.2.2.1]; exact lw_length G I (by omega)) ⟨by rw [E.2.2.2]; exact (show 8 + 1 ≤ 2048 by decide), by rw [E.2.2.2]; exact (show 8 + (4 + 11) + 145 ≤ 84000 by decide), by rw [E.2.2.2]; exact (show ce + 1 ≤ 601024 by first | exact rmo_1 hce (by decide) | exact rmo_2 hce (by decide) | omega), by rw [E.2.2.2]; exact (show sl + 6 ≤ 7293034 by first | exact rmo_1 hsl (by decide) | exact rmo_2 hsl (by decide) | omega)⟩ (Nat.le_of_ble_eq_true rfl) (fun vv A s6 hA2 hq => ?_) (fun ee A s6 hA2 hq => ?_))
  rotate_left
  · obtain ⟨Is6, Fs6, e7, hv, hrs6, hps6⟩ := hq; cases hv
  obtain ⟨Is6, Fs6, e7, hv, hrs6, hps6⟩ := hq
  cases hv
  rw [← hA2 0 (by decide)]
  rw [← hA2 179 (by decide)]
  rw [← hA2 517 (by decide)]
  have Gs6 := fm_tq F Fs6 rfl rfl
  have JRLx_s6 : RLx s6 := RLx_fm Fs6 (by decide) jR
  have JREQ_s6 : REQ 39 234 28 s6 := REQ_fm Fs6 (by decide) jREQ
  have ws6_28 : iI s6 28 = iI s 28 := fm_iq Fs6 rfl
  have ws6_97 : iI s6 97 = iI s 97 := fm_iq Fs6 rfl
  have ws6_12 : iI s6 12 = iI s 12 := fm_iq Fs6 rfl
  have ws6_89 : iI s6 89 = iI s 89 := fm_iq Fs6 rfl
  show WS k 895 [(0, .ref q1), (1, .ref (A 0)), (2, .ref (A 179)), (3, .ref (A 517)), (4, .int (Int32.ofInt i))] [.int (Int32.ofInt e7)] (Wd A dT s6) (ce + 1) (sl + 6)
  refine z_store X (lv' := [(5, .int (Int32.ofInt e7)), (0, .ref q1), (1, .ref (A 0)), (2, .ref (A 179)), (3, .ref (A 517)), (4, .int (Int32.ofInt i))]) rfl (by decide) (fun _ h => h) (z_aload_n X (x := A 179) rfl (List.Mem.tail _ (List.Mem.tail _ (List.Mem.tail _ (List.Mem.head _)))) (z_aload_n X (x := q1) rfl (List.Mem.tail _ (List.Mem.head _)) (z_load X (x := i) rfl (List.Mem.tail _ (List.Mem.tail _ (List.Mem.tail _ (List.Mem.tail _ (List.Mem.tail _ (List.Mem.head _)))))) (z_const X rfl (z_add X rfl (z_sld X S hL rfl (show 0 ≤ (i + 1) ∧ (i + 1) < (L : Int) by first | exact sx_in hi (by decide) | omega) ?_))))))
  have sr8 : rng (sc xs (i + 1)) := sc_rng
  refine z_callV X 179 (rm := rmN 244) (As := [.int (Int32.ofInt (sc xs (i + 1)))]) (st := []) rfl rfl (by decide) rfl (by rw [E.1, E.2.1, E.2.2.1]; exact k_length G Is6 (by first | exact ⟨sr8.1, sr8.2⟩ | omega)) ⟨by rw [E.2.2.2]; exact (show 7 + 1 ≤ 2048 from oq_4e6106eb), by rw [E.2.2.2]; exact (show 8 + (3 + 11) + 122 ≤ 84000 from oq_38d194b9), by rw [E.2.2.2]; exact (show (ce + 1) + 0 ≤ 601024 by omega), by rw [E.2.2.2]; exact (show (sl + 6) + 0 ≤ 7293034 by omega)⟩ (Nat.le_of_ble_eq_true rfl) (fun vv s9 hq => ?_) (fun ee s9 hq => ?_)
  rotate_left
  · obtain ⟨Is9, Fs9, e10, hv, hrs9, hps9⟩ := hq; cases hv
  obtain ⟨Is9, Fs9, e10, hv, hrs9, hps9⟩ := hq
  cases hv
  have Gs9 := fm_tq Gs6 Fs9 rfl rfl
  have JRLx_s9 : RLx s9 := RLx_fm Fs9 (by decide) JRLx_s6
  have JREQ_s9 : REQ 39 234 28 s9 := REQ_fm Fs9 (by decide) JREQ_s6
  have ws9_28 : iI s9 28 = iI s6 28 := fm_iq Fs9 rfl
  have ws9_97 : iI s9 97 = iI s6 97 := fm_iq Fs9 rfl
  have ws9_12 : iI s9 12 = iI s6 12 := fm_iq Fs9 rfl
  have ws9_89 : iI s9 89 = iI s6 89 := fm_iq Fs9 rfl
  have wos9 : iO s9 = iO s6 := fm_o Fs9 (by decide)
  show WS k 907 [(5, .int (Int32.ofInt e7)), (0, .ref q1), (1, .ref (A 0)), (2, .ref (A 179)), (3, .ref (A 517)), (4, .int (Int32.ofInt i))] [.int (Int32.ofInt e10)] (Wd A dT s9) (ce + 1) (sl + 6)
  refine z_store X (lv' := [(6, .int (Int32.ofInt e10)), (5, .int (Int32.ofInt e7)), (0, .ref q1), (1, .ref (A 0)), (2, .ref (A 179)), (3, .ref (A 517)), (4, .int (Int32.ofInt i))]) rfl (by decide) (fun _ h => h) (z_goto X (t := 1866) rfl rfl (w_widen (ce' := ce + 29) (sl' := sl + 222) (by first | exact Nat.le_add_right _ _ | exact Nat.add_le_add_left (by decide) _ | omega) (by first | exact Nat.le_add_right _ _ | exact Nat.add_le_add_left (by decide) _ | omega) ?_))
  exact WS_lv (lv := [(0, .ref q1), (1, .ref (A 0)), (2, .ref (A 179)), (3, .ref (A 517)), (4, .int (Int32.ofInt i))]) (List.forall_mem_cons.mpr ⟨(List.Mem.tail _ (List.Mem.tail _ (List.Mem.head _))), (List.forall_mem_cons.mpr ⟨(List.Mem.tail _ (List.Mem.tail _ (List.Mem.tail _ (List.Mem.head _)))), (List.forall_mem_cons.mpr ⟨(List.Mem.tail _ (List.Mem.tail _ (List.Mem.tail _ (List.Mem.tail _ (List.Mem.head _))))), (List.forall_mem_cons.mpr ⟨(List.Mem.tail _ (List.Mem.tail _ (List.Mem.tail _ (List.Mem.tail _ (List.Mem.tail _ (List.Mem.head _)))))), (List.forall_mem_cons.mpr ⟨(List.Mem.tail _ (List.Mem.tail _ (List.Mem.tail _ (List.Mem.tail _ (List.Mem.tail _ (List.Mem.tail _ (List.Mem.head _))))))), (fun q h => absurd h List.not_mem_nil)⟩)⟩)⟩)⟩)⟩) (hk A _ Is9 JRLx_s9 JREQ_s9 (by first | exact oq_f34933ba ws9_89 ws6_89 p1 b4.1 | omega) (by first | exact oq_d7ce4408 ws9_12 ws6_12 p2 | omega) (by first | exact oq_5bcdc35f ws9_97 ws9_28 ws6_97 ws6_28 p3 | omega))
theorem lc_17 (G : GX l s0 D tys a0 dT) (GR : RS0 s0) (SF : SF0 s0) (GT : TXs0 s0) {k : kx_T} (X : AX k 350 dT) (E : kL k = l ∧ kS0 k = s0 ∧ kD k = D ∧ kR k = room_1) {q1 L : Nat} {xs : Nat → Int32} (S : SX k q1 L xs) (hL : L ≤ 3072) (I : Bd s) (jR : RLx s) (jREQ : REQ 39 234 28 s) (p1 : iI s 89 = 1) (p2 : iI s 12 ≤ 8) (p3 : iI s 28 = iI s 97) {i : Int} (hi : 0 ≤ i ∧ i + 6 ≤ (L : Int)) {ce sl : Nat} (hce : ce + 29 ≤ 601024) (hsl : sl + 222 ≤ 7293034) (hk : ∀ (A : Nat → Nat) (t : PS), Bd t → RLx t → REQ 39 234 28 t → iI t 89 = 1 → iI t 12 ≤ 8 → iI t 28 = iI t 97 → WS k 1866 [(0, .ref q1), (1, .ref (A 0)), (2, .ref (A 179)), (3, .ref (A 517)), (4, .int (Int32.ofInt i))] [] (Wd A dT t) (ce + 29) (sl + 222)) : WS k 912 [(0, .ref q1), (1, .ref (A 0)), (2, .ref (A 179)), (3, .ref (A 517)), (4, .int (Int32.ofInt i))] [] (Wd A dT s) ce sl := by
  have F : Fm [73] [1460, 202, 204, 205, 206, 207, 208, 209, 210, 211, 212, 213, 214, 215, 216, 217, 218, 219, 220, 221, 222, 223, 224, 225, 226, 227, 203] s s := fm_rf _ _ s
  have b1 := bi_28 I
  have b2 := bi_97 I
  have b3 := bi_12 I
  have b4 := bi_89 I
  refine z_aload_n X (x := A 0) rfl (List.Mem.tail _ (List.Mem.head _)) (z_aload_n X (x := q1) rfl (List.Mem.head _) (z_load X (x := i) rfl (List.Mem.tail _ (List.Mem.tail _ (List.Mem.tail _ (List.Mem.tail _ (List.Mem.head _))))) (z_const X rfl (z_add X rfl (z_sld X S hL rfl (show 0 ≤ (i + 1) ∧ (i + 1) < (L : Int) by first | exact sx_in hi (by decide) | omega) ?_)))))
  have sr5 : rng (sc xs (i + 1)) := sc_rng
  refine z_aload_n X (x := A 517) rfl (List.Mem.tail _ (List.Mem.tail _ (List.Mem.tail _ (List.Mem.head _)))) (z_callL X (rm := rmN 329) (As := [.ref (A 0), .int (Int32.ofInt (sc xs (i + 1))), .ref (A 517)]) (st := []) rfl (by decide) rfl (by rw [E.1, E.2.1, E.2.2.1]; exact lw_edge G I (by omega)) ⟨by rw [E.2.2.2]; exact (show 9 + 1 ≤ 2048 by decide), by rw [E.2.2.2]; exact (show 8 + (4 + 11) + 173 ≤ 84000 by decide), by rw [E.2.2.2]; exact (show ce + 1 ≤ 601024 by first | exact rmo_1 hce (by decide) | exact rmo_2 hce (by decide) | omega), by rw [E.2.2.2]; exact (show sl + 6 ≤ 7293034 by first | exact rmo_1 hsl (by decide) | exact rmo_2 hsl (by decide) | omega)⟩ (Nat.le_of_ble_eq_true rfl) (fun vv A s6 hA2 hq => ?_) (fun ee A s6 hA2 hq => ?_))
  rotate_left
  · obtain ⟨Is6, Fs6, e7, hv, hrs6, hps6⟩ := hq; cases hv
  obtain ⟨Is6, Fs6, e7, hv, hrs6, hps6⟩ := hq
  cases hv
  rw [← hA2 0 (by decide)]
  rw [← hA2 179 (by decide)]
  rw [← hA2 517 (by decide)]
  have Gs6 := fm_tq F Fs6 rfl rfl
  have JRLx_s6 : RLx s6 := RLx_fm Fs6 (by decide) jR
  have JREQ_s6 : REQ 39 234 28 s6 := REQ_fm Fs6 (by decide) jREQ
  have ws6_28 : iI s6 28 = iI s 28 := fm_iq Fs6 rfl
  have ws6_97 : iI s6 97 = iI s 97 := fm_iq Fs6 rfl
  have ws6_12 : iI s6 12 = iI s 12 := fm_iq Fs6 rfl
  have ws6_89 : iI s6 89 = iI s 89 := fm_iq Fs6 rfl
  show WS k 923 [(0, .ref q1), (1, .ref (A 0)), (2, .ref (A 179)), (3, .ref (A 517)), (4, .int (Int32.ofInt i))] [.int (Int32.ofInt e7)] (Wd A dT s6) (ce + 1) (sl + 6)
  refine z_store X (lv' := [(5, .int (Int32.ofInt e7)), (0, .ref q1), (1, .ref (A 0)), (2, .ref (A 179)), (3, .ref (A 517)), (4, .int (Int32.ofInt i))]) rfl (by decide) (fun _ h => h) (z_aload_n X (x := A 179) rfl (List.Mem.tail _ (List.Mem.tail _ (List.Mem.tail _ (List.Mem.head _)))) (z_aload_n X (x := q1) rfl (List.Mem.tail _ (List.Mem.head _)) (z_load X (x := i) rfl (List.Mem.tail _ (List.Mem.tail _ (List.Mem.tail _ (List.Mem.tail _ (List.Mem.tail _ (List.Mem.head _)))))) (z_const X rfl (z_add X rfl (z_sld X S hL rfl (show 0 ≤ (i + 1) ∧ (i + 1) < (L : Int) by first | exact sx_in hi (by decide) | omega) ?_))))))
  have sr8 : rng (sc xs (i + 1)) := sc_rng
  refine z_callV X 179 (rm := rmN 246) (As := [.int (Int32.ofInt (sc xs (i + 1)))]) (st := []) rfl rfl (by decide) rfl (by rw [E.1, E.2.1, E.2.2.1]; exact k_edge G Is6 JRLx_s6 (by first | exact ⟨sr8.1, sr8.2⟩ | omega)) ⟨by rw [E.2.2.2]; exact (show 11 + 1 ≤ 2048 from oq_dd1cdbfa), by rw [E.2.2.2]; exact (show 8 + (6 + 11) + 212 ≤ 84000 from oq_c1432001), by rw [E.2.2.2]; exact (show (ce + 1) + 0 ≤ 601024 by omega), by rw [E.2.2.2]; exact (show (sl + 6) + 0 ≤ 7293034 by omega)⟩ (Nat.le_of_ble_eq_true rfl) (fun vv s9 hq => ?_) (fun ee s9 hq => ?_)
  rotate_left
  · obtain ⟨Is9, Fs9, JRLx_s9, e10, hv, hrs9, hps9⟩ := hq; cases hv
  obtain ⟨Is9, Fs9, JRLx_s9, e10, hv, hrs9, hps9⟩ := hq
  cases hv
  have Gs9 := fm_tq Gs6 Fs9 rfl rfl
  have JRLx_s9 : RLx s9 := RLx_fm Fs9 (by decide) JRLx_s6
  have JREQ_s9 : REQ 39 234 28 s9 := REQ_fm Fs9 (by decide) JREQ_s6
  have ws9_28 : iI s9 28 = iI s6 28 := fm_iq Fs9 rfl
  have ws9_97 : iI s9 97 = iI s6 97 := fm_iq Fs9 rfl
  have ws9_12 : iI s9 12 = iI s6 12 := fm_iq Fs9 rfl
  have ws9_89 : iI s9 89 = iI s6 89 := fm_iq Fs9 rfl
  have wos9 : iO s9 = iO s6 := fm_o Fs9 (by decide)
  show WS k 935 [(5, .int (Int32.ofInt e7)), (0, .ref q1), (1, .ref (A 0)), (2, .ref (A 179)), (3, .ref (A 517)), (4, .int (Int32.ofInt i))] [.int (Int32.ofInt e10)] (Wd A dT s9) (ce + 1) (sl + 6)
  refine z_store X (lv' := [(6, .int (Int32.ofInt e10)), (5, .int (Int32.ofInt e7)), (0, .ref q1), (1, .ref (A 0)), (2, .ref (A 179)), (3, .ref (A 517)), (4, .int (Int32.ofInt i))]) rfl (by decide) (fun _ h => h) (z_goto X (t := 1866) rfl rfl (w_widen (ce' := ce + 29) (sl' := sl + 222) (by first | exact Nat.le_add_right _ _ | exact Nat.add_le_add_left (by decide) _ | omega) (by first | exact Nat.le_add_right _ _ | exact Nat.add_le_add_left (by decide) _ | omega) ?_))
  exact WS_lv (lv := [(0, .ref q1), (1, .ref (A 0)), (2, .ref (A 179)), (3, .ref (A 517)), (4, .int (Int32.ofInt i))]) (List.forall_mem_cons.mpr ⟨(List.Mem.tail _ (List.Mem.tail _ (List.Mem.head _))), (List.forall_mem_cons.mpr ⟨(List.Mem.tail _ (List.Mem.tail _ (List.Mem.tail _ (List.Mem.head _)))), (List.forall_mem_cons.mpr ⟨(List.Mem.tail _ (List.Mem.tail _ (List.Mem.tail _ (List.Mem.tail _ (List.Mem.head _))))), (List.forall_mem_cons.mpr ⟨(List.Mem.tail _ (List.Mem.tail _ (List.Mem.tail _ (List.Mem.tail _ (List.Mem.tail _ (List.Mem.head _)))))), (List.forall_mem_cons.mpr ⟨(List.Mem.tail _ (List.Mem.tail _ (List.Mem.tail _ (List.Mem.tail _ (List.Mem.tail _ (List.Mem.tail _ (List.Mem.head _))))))), (fun q h => absurd h List.not_mem_nil)⟩)⟩)⟩)⟩)⟩) (hk A _ Is9 JRLx_s9 JREQ_s9 (by first | exact oq_f34933ba ws9_89 ws6_89 p1 b4.1 | omega) (by first | exact oq_d7ce4408 ws9_12 ws6_12 p2 | omega) (by first | exact oq_5bcdc35f ws9_97 ws9_28 ws6_97 ws6_28 p3 | omega))
theorem lc_18 (G : GX l s0 D tys a0 dT) (GR : RS0 s0) (SF : SF0 s0) (GT : TXs0 s0) {k : kx_T} (X : AX k 350 dT) (E : kL k = l ∧ kS0 k = s0 ∧ kD k = D ∧ kR k = room_1) {q1 L : Nat} {xs : Nat → Int32} (S : SX k q1 L xs) (hL : L ≤ 3072) (I : Bd s) (jR : RLx s) (jREQ : REQ 39 234 28 s) (p1 : iI s 89 = 1) (p2 : iI s 12 ≤ 8) (p3 : iI s 28 = iI s 97) {i : Int} (hi : 0 ≤ i ∧ i + 6 ≤ (L : Int)) {ce sl : Nat} (hce : ce + 29 ≤ 601024) (hsl : sl + 222 ≤ 7293034) (hk : ∀ (A : Nat → Nat) (t : PS), Bd t → RLx t → REQ 39 234 28 t → iI t 89 = 1 → iI t 12 ≤ 8 → iI t 28 = iI t 97 → WS k 1866 [(0, .ref q1), (1, .ref (A 0)), (2, .ref (A 179)), (3, .ref (A 517)), (4, .int (Int32.ofInt i))] [] (Wd A dT t) (ce + 29) (sl + 222)) : WS k 940 [(0, .ref q1), (1, .ref (A 0)), (2, .ref (A 179)), (3, .ref (A 517)), (4, .int (Int32.ofInt i))] [] (Wd A dT s) ce sl := by
  have F : Fm [22, 23, 24, 73, 77, 75, 78, 79, 80, 81] [33, 26, 27, 28, 29, 30, 31, 32, 20, 202, 204, 205, 206, 207, 208, 209, 210, 211, 212, 213, 214, 215, 216, 217, 218, 219, 220, 221, 222, 223, 224, 225, 226, 227, 203, 161, 230, 231, 232] s s := fm_rf _ _ s
  have b1 := bi_28 I
  have b2 := bi_97 I
  have b3 := bi_12 I
  have b4 := bi_89 I
  refine z_aload_n X (x := A 0) rfl (List.Mem.tail _ (List.Mem.head _)) (z_callV X 0 (rm := rmN 153) (As := []) (st := []) rfl rfl (by decide) rfl (by rw [E.1, E.2.1, E.2.2.1]; exact cs_holds G I ) ⟨by rw [E.2.2.2]; exact (show 11 + 1 ≤ 2048 from oq_dd1cdbfa), by rw [E.2.2.2]; exact (show 8 + (2 + 11) + 224 ≤ 84000 from oq_b95bb2bf), by rw [E.2.2.2]; exact (show ce + 0 ≤ 601024 by omega), by rw [E.2.2.2]; exact (show sl + 0 ≤ 7293034 by omega)⟩ (Nat.le_of_ble_eq_true rfl) (fun vv s5 hq => ?_) (fun ee s5 hq => ?_))
  rotate_left
  · obtain ⟨Is5, Fs5, e6, hv, hrs5, hps5⟩ := hq; cases hv
  obtain ⟨Is5, Fs5, e6, hv, hrs5, hps5⟩ := hq
  cases hv
  have Gs5 := fm_tq F Fs5 rfl rfl
  have JRLx_s5 : RLx s5 := RLx_fm Fs5 (by decide) jR
  have JREQ_s5 : REQ 39 234 28 s5 := REQ_fm Fs5 (by decide) jREQ
  have ws5_28 : iI s5 28 = iI s 28 := fm_iq Fs5 rfl
  have ws5_97 : iI s5 97 = iI s 97 := fm_iq Fs5 rfl
  have ws5_12 : iI s5 12 = iI s 12 := fm_iq Fs5 rfl
  have ws5_89 : iI s5 89 = iI s 89 := fm_iq Fs5 rfl
  have wos5 : iO s5 = iO s := fm_o Fs5 (by decide)
  show WS k 944 [(0, .ref q1), (1, .ref (A 0)), (2, .ref (A 179)), (3, .ref (A 517)), (4, .int (Int32.ofInt i))] [.int (Int32.ofInt e6)] (Wd A dT s5) ce sl
  refine w_pop X.1 (ax_d X (show cdA 350 944 = some (.pop, 1, 0, 0, 0) from rfl)) rfl (z_aload_n X (x := A 179) rfl (List.Mem.tail _ (List.Mem.tail _ (List.Mem.head _))) (z_callV X 179 (rm := rmN 247) (As := []) (st := []) rfl rfl (by decide) rfl (by rw [E.1, E.2.1, E.2.2.1]; exact k_holds G Is5 JRLx_s5 ) ⟨by rw [E.2.2.2]; exact (show 39 + 1 ≤ 2048 from oq_dead3895), by rw [E.2.2.2]; exact (show 8 + (2 + 11) + 1622 ≤ 84000 from oq_2450e786), by rw [E.2.2.2]; exact (show ce + 0 ≤ 601024 by first | (clear hps5; omega) | omega), by rw [E.2.2.2]; exact (show sl + 0 ≤ 7293034 by first | (clear hps5; omega) | omega)⟩ (Nat.le_of_ble_eq_true rfl) (fun vv s7 hq => ?_) (fun ee s7 hq => ?_)))
  rotate_left
  · obtain ⟨Is7, Fs7, JRLx_s7, e8, hv, hrs7, hps7⟩ := hq; cases hv
  obtain ⟨Is7, Fs7, JRLx_s7, e8, hv, hrs7, hps7⟩ := hq
  cases hv
  have Gs7 := fm_tq Gs5 Fs7 rfl rfl
  have JRLx_s7 : RLx s7 := RLx_fm Fs7 (by decide) JRLx_s5
  have JREQ_s7 : REQ 39 234 28 s7 := REQ_fm Fs7 (by decide) JREQ_s5
  have ws7_28 : iI s7 28 = iI s5 28 := fm_iq Fs7 rfl
  have ws7_97 : iI s7 97 = iI s5 97 := fm_iq Fs7 rfl
  have ws7_12 : iI s7 12 = iI s5 12 := fm_iq Fs7 rfl
  have ws7_89 : iI s7 89 = iI s5 89 := fm_iq Fs7 rfl
  have wos7 : iO s7 = iO s5 := fm_o Fs7 (by decide)
  show WS k 949 [(0, .ref q1), (1, .ref (A 0)), (2, .ref (A 179)), (3, .ref (A 517)), (4, .int (Int32.ofInt i))] [.int (Int32.ofInt e8)] (Wd A dT s7) ce sl
  refine w_pop X.1 (ax_d X (show cdA 350 949 = some (.pop, 1, 0, 0, 0) from rfl)) rfl (z_goto X (t := 1866) rfl rfl (w_widen (ce' := ce + 29) (sl' := sl + 222) (by first | exact Nat.le_add_right _ _ | exact Nat.add_le_add_left (by decide) _ | omega) (by first | exact Nat.le_add_right _ _ | exact Nat.add_le_add_left (by decide) _ | omega) ?_))
  exact WS_lv (lv := [(0, .ref q1), (1, .ref (A 0)), (2, .ref (A 179)), (3, .ref (A 517)), (4, .int (Int32.ofInt i))]) (List.forall_mem_cons.mpr ⟨(List.Mem.head _), (List.forall_mem_cons.mpr ⟨(List.Mem.tail _ (List.Mem.head _)), (List.forall_mem_cons.mpr ⟨(List.Mem.tail _ (List.Mem.tail _ (List.Mem.head _))), (List.forall_mem_cons.mpr ⟨(List.Mem.tail _ (List.Mem.tail _ (List.Mem.tail _ (List.Mem.head _)))), (List.forall_mem_cons.mpr ⟨(List.Mem.tail _ (List.Mem.tail _ (List.Mem.tail _ (List.Mem.tail _ (List.Mem.head _))))), (fun q h => absurd h List.not_mem_nil)⟩)⟩)⟩)⟩)⟩) (hk A _ Is7 JRLx_s7 JREQ_s7 (by first | exact oq_f34933ba ws7_89 ws5_89 p1 b4.1 | omega) (by first | exact oq_d7ce4408 ws7_12 ws5_12 p2 | omega) (by first | exact oq_5bcdc35f ws7_97 ws7_28 ws5_97 ws5_28 p3 | omega))
theorem lc_19 (G : GX l s0 D tys a0 dT) (GR : RS0 s0) (SF : SF0 s0) (GT : TXs0 s0) {k : kx_T} (X : AX k 350 dT) (E : kL k = l ∧ kS0 k = s0 ∧ kD k = D ∧ kR k = room_1) {q1 L : Nat} {xs : Nat → Int32} (S : SX k q1 L xs) (hL : L ≤ 3072) (I : Bd s) (jR : RLx s) (jREQ : REQ 39 234 28 s) (p1 : iI s 89 = 1) (p2 : iI s 12 ≤ 8) (p3 : iI s 28 = iI s 97) {i : Int} (hi : 0 ≤ i ∧ i + 6 ≤ (L : Int)) {ce sl : Nat} (hce : ce + 29 ≤ 601024) (hsl : sl + 222 ≤ 7293034) (hk : ∀ (A : Nat → Nat) (t : PS), Bd t → RLx t → REQ 39 234 28 t → iI t 89 = 1 → iI t 12 ≤ 8 → iI t 28 = iI t 97 → WS k 1866 [(0, .ref q1), (1, .ref (A 0)), (2, .ref (A 179)), (3, .ref (A 517)), (4, .int (Int32.ofInt i))] [] (Wd A dT t) (ce + 29) (sl + 222)) : WS k 953 [(0, .ref q1), (1, .ref (A 0)), (2, .ref (A 179)), (3, .ref (A 517)), (4, .int (Int32.ofInt i))] [] (Wd A dT s) ce sl := by
  have F : Fm [22, 23, 24, 73, 77, 75, 78, 79, 80, 81] [33, 26, 27, 28, 29, 30, 31, 32, 20, 36, 37, 35, 202, 204, 205, 206, 207, 208, 209, 210, 211, 212, 213, 214, 215, 216, 217, 218, 219, 220, 221, 222, 223, 224, 225, 226, 227, 203, 161, 230, 233] s s := fm_rf _ _ s
  have b1 := bi_28 I
  have b2 := bi_97 I
  have b3 := bi_12 I
  have b4 := bi_89 I
  refine z_aload_n X (x := A 0) rfl (List.Mem.tail _ (List.Mem.head _)) (z_callV X 0 (rm := rmN 154) (As := []) (st := []) rfl rfl (by decide) rfl (by rw [E.1, E.2.1, E.2.2.1]; exact cs_cost G I ) ⟨by rw [E.2.2.2]; exact (show 12 + 1 ≤ 2048 from oq_f781d9f4), by rw [E.2.2.2]; exact (show 8 + (1 + 11) + 237 ≤ 84000 from oq_d9c24595), by rw [E.2.2.2]; exact (show ce + 0 ≤ 601024 by omega), by rw [E.2.2.2]; exact (show sl + 0 ≤ 7293034 by omega)⟩ (Nat.le_of_ble_eq_true rfl) (fun vv s5 hq => ?_) (fun ee s5 hq => ?_))
  rotate_left
  · obtain ⟨Is5, Fs5, e6, hv, hrs5, hps5⟩ := hq; cases hv
  obtain ⟨Is5, Fs5, e6, hv, hrs5, hps5⟩ := hq
  cases hv
  have Gs5 := fm_tq F Fs5 rfl rfl
  have JRLx_s5 : RLx s5 := RLx_fm Fs5 (by decide) jR
  have JREQ_s5 : REQ 39 234 28 s5 := REQ_fm Fs5 (by decide) jREQ
  have ws5_28 : iI s5 28 = iI s 28 := fm_iq Fs5 rfl
  have ws5_97 : iI s5 97 = iI s 97 := fm_iq Fs5 rfl
  have ws5_12 : iI s5 12 = iI s 12 := fm_iq Fs5 rfl
  have ws5_89 : iI s5 89 = iI s 89 := fm_iq Fs5 rfl
  have wos5 : iO s5 = iO s := fm_o Fs5 (by decide)
  show WS k 957 [(0, .ref q1), (1, .ref (A 0)), (2, .ref (A 179)), (3, .ref (A 517)), (4, .int (Int32.ofInt i))] [.int (Int32.ofInt e6)] (Wd A dT s5) ce sl
  refine w_pop X.1 (ax_d X (show cdA 350 957 = some (.pop, 1, 0, 0, 0) from rfl)) rfl (z_aload_n X (x := A 179) rfl (List.Mem.tail _ (List.Mem.tail _ (List.Mem.head _))) (z_callV X 179 (rm := rmN 253) (As := []) (st := []) rfl rfl (by decide) rfl (by rw [E.1, E.2.1, E.2.2.1]; exact k_cost G Is5 JRLx_s5 ) ⟨by rw [E.2.2.2]; exact (show 41 + 1 ≤ 2048 from oq_2c2f0271), by rw [E.2.2.2]; exact (show 8 + (1 + 11) + 1663 ≤ 84000 from oq_260410fd), by rw [E.2.2.2]; exact (show ce + 0 ≤ 601024 by omega), by rw [E.2.2.2]; exact (show sl + 0 ≤ 7293034 by omega)⟩ (Nat.le_of_ble_eq_true rfl) (fun vv s7 hq => ?_) (fun ee s7 hq => ?_)))
  rotate_left
  · obtain ⟨Is7, Fs7, JRLx_s7, e8, hv, hrs7, hps7⟩ := hq; cases hv
  obtain ⟨Is7, Fs7, JRLx_s7, e8, hv, hrs7, hps7⟩ := hq
  cases hv
  have Gs7 := fm_tq Gs5 Fs7 rfl rfl
  have JRLx_s7 : RLx s7 := RLx_fm Fs7 (by decide) JRLx_s5
  have JREQ_s7 : REQ 39 234 28 s7 := REQ_fm Fs7 (by decide) JREQ_s5
  have ws7_28 : iI s7 28 = iI s5 28 := fm_iq Fs7 rfl
  have ws7_97 : iI s7 97 = iI s5 97 := fm_iq Fs7 rfl
  have ws7_12 : iI s7 12 = iI s5 12 := fm_iq Fs7 rfl
  have ws7_89 : iI s7 89 = iI s5 89 := fm_iq Fs7 rfl
  have wos7 : iO s7 = iO s5 := fm_o Fs7 (by decide)
  show WS k 962 [(0, .ref q1), (1, .ref (A 0)), (2, .ref (A 179)), (3, .ref (A 517)), (4, .int (Int32.ofInt i))] [.int (Int32.ofInt e8)] (Wd A dT s7) ce sl
  refine w_pop X.1 (ax_d X (show cdA 350 962 = some (.pop, 1, 0, 0, 0) from rfl)) rfl (z_goto X (t := 1866) rfl rfl (w_widen (ce' := ce + 29) (sl' := sl + 222) (by first | exact Nat.le_add_right _ _ | exact Nat.add_le_add_left (by decide) _ | omega) (by first | exact Nat.le_add_right _ _ | exact Nat.add_le_add_left (by decide) _ | omega) ?_))
  exact WS_lv (lv := [(0, .ref q1), (1, .ref (A 0)), (2, .ref (A 179)), (3, .ref (A 517)), (4, .int (Int32.ofInt i))]) (List.forall_mem_cons.mpr ⟨(List.Mem.head _), (List.forall_mem_cons.mpr ⟨(List.Mem.tail _ (List.Mem.head _)), (List.forall_mem_cons.mpr ⟨(List.Mem.tail _ (List.Mem.tail _ (List.Mem.head _))), (List.forall_mem_cons.mpr ⟨(List.Mem.tail _ (List.Mem.tail _ (List.Mem.tail _ (List.Mem.head _)))), (List.forall_mem_cons.mpr ⟨(List.Mem.tail _ (List.Mem.tail _ (List.Mem.tail _ (List.Mem.tail _ (List.Mem.head _))))), (fun q h => absurd h List.not_mem_nil)⟩)⟩)⟩)⟩)⟩) (hk A _ Is7 JRLx_s7 JREQ_s7 (by first | exact oq_f34933ba ws7_89 ws5_89 p1 b4.1 | omega) (by first | exact oq_d7ce4408 ws7_12 ws5_12 p2 | omega) (by first | exact oq_5bcdc35f ws7_97 ws7_28 ws5_97 ws5_28 p3 | omega))
theorem lc_20 (G : GX l s0 D tys a0 dT) (GR : RS0 s0) (SF : SF0 s0) (GT : TXs0 s0) {k : kx_T} (X : AX k 350 dT) (E : kL k = l ∧ kS0 k = s0 ∧ kD k = D ∧ kR k = room_1) {q1 L : Nat} {xs : Nat → Int32} (S : SX k q1 L xs) (hL : L ≤ 3072) (I : Bd s) (jR : RLx s) (jREQ : REQ 39 234 28 s) (p1 : iI s 89 = 1) (p2 : iI s 12 ≤ 8) (p3 : iI s 28 = iI s 97) {i : Int} (hi : 0 ≤ i ∧ i + 6 ≤ (L : Int)) {ce sl : Nat} (hce : ce + 29 ≤ 601024) (hsl : sl + 222 ≤ 7293034) (hk : ∀ (A : Nat → Nat) (t : PS), Bd t → RLx t → REQ 39 234 28 t → iI t 89 = 1 → iI t 12 ≤ 8 → iI t 28 = iI t 97 → WS k 1866 [(0, .ref q1), (1, .ref (A 0)), (2, .ref (A 179)), (3, .ref (A 517)), (4, .int (Int32.ofInt i))] [] (Wd A dT t) (ce + 29) (sl + 222)) : WS k 966 [(0, .ref q1), (1, .ref (A 0)), (2, .ref (A 179)), (3, .ref (A 517)), (4, .int (Int32.ofInt i))] [] (Wd A dT s) ce sl := by
  have F : Fm [22, 23, 24, 25, 26, 27, 73, 77, 75, 78, 79, 80, 81, 92, 93, 94] [33, 26, 27, 28, 29, 30, 31, 32, 20, 36, 37, 21, 35, 38, 1022, 1023, 1460, 202, 204, 205, 206, 207, 208, 209, 210, 211, 212, 213, 214, 215, 216, 217, 218, 219, 220, 221, 222, 223, 224, 225, 226, 227, 203, 161, 230, 233, 231, 232, 228] s s := fm_rf _ _ s
  have b1 := bi_28 I
  have b2 := bi_97 I
  have b3 := bi_12 I
  have b4 := bi_89 I
  refine z_aload_n X (x := A 0) rfl (List.Mem.tail _ (List.Mem.head _)) (z_aload_n X (x := q1) rfl (List.Mem.head _) (z_load X (x := i) rfl (List.Mem.tail _ (List.Mem.tail _ (List.Mem.tail _ (List.Mem.tail _ (List.Mem.head _))))) (z_const X rfl (z_add X rfl (z_sld X S hL rfl (show 0 ≤ (i + 1) ∧ (i + 1) < (L : Int) by first | exact sx_in hi (by decide) | omega) ?_)))))
  have sr5 : rng (sc xs (i + 1)) := sc_rng
  refine z_aload_n X (x := A 517) rfl (List.Mem.tail _ (List.Mem.tail _ (List.Mem.tail _ (List.Mem.head _)))) (z_callL X (rm := rmN 330) (As := [.ref (A 0), .int (Int32.ofInt (sc xs (i + 1))), .ref (A 517)]) (st := []) rfl (by decide) rfl (by rw [E.1, E.2.1, E.2.2.1]; exact lw_better G I (by omega)) ⟨by rw [E.2.2.2]; exact (show 14 + 1 ≤ 2048 by decide), by rw [E.2.2.2]; exact (show 8 + (4 + 11) + 289 ≤ 84000 by decide), by rw [E.2.2.2]; exact (show ce + 1 ≤ 601024 by first | exact rmo_1 hce (by decide) | exact rmo_2 hce (by decide) | omega), by rw [E.2.2.2]; exact (show sl + 6 ≤ 7293034 by first | exact rmo_1 hsl (by decide) | exact rmo_2 hsl (by decide) | omega)⟩ (Nat.le_of_ble_eq_true rfl) (fun vv A s6 hA2 hq => ?_) (fun ee A s6 hA2 hq => ?_))
  rotate_left
  · obtain ⟨Is6, Fs6, e7, hv, hrs6, hps6⟩ := hq; cases hv
  obtain ⟨Is6, Fs6, e7, hv, hrs6, hps6⟩ := hq
  cases hv
  rw [← hA2 0 (by decide)]
  rw [← hA2 179 (by decide)]
  rw [← hA2 517 (by decide)]
  have Gs6 := fm_tq F Fs6 rfl rfl
  have JRLx_s6 : RLx s6 := RLx_fm Fs6 (by decide) jR
  have JREQ_s6 : REQ 39 234 28 s6 := REQ_fm Fs6 (by decide) jREQ
  have ws6_28 : iI s6 28 = iI s 28 := fm_iq Fs6 rfl
  have ws6_97 : iI s6 97 = iI s 97 := fm_iq Fs6 rfl
  have ws6_12 : iI s6 12 = iI s 12 := fm_iq Fs6 rfl
  have ws6_89 : iI s6 89 = iI s 89 := fm_iq Fs6 rfl
  show WS k 977 [(0, .ref q1), (1, .ref (A 0)), (2, .ref (A 179)), (3, .ref (A 517)), (4, .int (Int32.ofInt i))] [.int (Int32.ofInt e7)] (Wd A dT s6) (ce + 1) (sl + 6)
  refine z_store X (lv' := [(5, .int (Int32.ofInt e7)), (0, .ref q1), (1, .ref (A 0)), (2, .ref (A 179)), (3, .ref (A 517)), (4, .int (Int32.ofInt i))]) rfl (by decide) (fun _ h => h) (z_aload_n X (x := A 179) rfl (List.Mem.tail _ (List.Mem.tail _ (List.Mem.tail _ (List.Mem.head _)))) (z_aload_n X (x := q1) rfl (List.Mem.tail _ (List.Mem.head _)) (z_load X (x := i) rfl (List.Mem.tail _ (List.Mem.tail _ (List.Mem.tail _ (List.Mem.tail _ (List.Mem.tail _ (List.Mem.head _)))))) (z_const X rfl (z_add X rfl (z_sld X S hL rfl (show 0 ≤ (i + 1) ∧ (i + 1) < (L : Int) by first | exact sx_in hi (by decide) | omega) ?_))))))
  have sr8 : rng (sc xs (i + 1)) := sc_rng
  refine z_callV X 179 (rm := rmN 256) (As := [.int (Int32.ofInt (sc xs (i + 1)))]) (st := []) rfl rfl (by decide) rfl (by rw [E.1, E.2.1, E.2.2.1]; exact k_better G Is6 JRLx_s6 (by first | exact ⟨sr8.1, sr8.2⟩ | omega)) ⟨by rw [E.2.2.2]; exact (show 42 + 1 ≤ 2048 from oq_38aede7b), by rw [E.2.2.2]; exact (show 8 + (2 + 11) + 1687 ≤ 84000 from oq_b5fdcedd), by rw [E.2.2.2]; exact (show (ce + 1) + 0 ≤ 601024 by omega), by rw [E.2.2.2]; exact (show (sl + 6) + 0 ≤ 7293034 by omega)⟩ (Nat.le_of_ble_eq_true rfl) (fun vv s9 hq => ?_) (fun ee s9 hq => ?_)
  rotate_left
  · obtain ⟨Is9, Fs9, JRLx_s9, e10, hv, hrs9, hps9⟩ := hq; cases hv
  obtain ⟨Is9, Fs9, JRLx_s9, e10, hv, hrs9, hps9⟩ := hq
  cases hv
  have Gs9 := fm_tq Gs6 Fs9 rfl rfl
  have JRLx_s9 : RLx s9 := RLx_fm Fs9 (by decide) JRLx_s6
  have JREQ_s9 : REQ 39 234 28 s9 := REQ_fm Fs9 (by decide) JREQ_s6
  have ws9_28 : iI s9 28 = iI s6 28 := fm_iq Fs9 rfl
  have ws9_97 : iI s9 97 = iI s6 97 := fm_iq Fs9 rfl
  have ws9_12 : iI s9 12 = iI s6 12 := fm_iq Fs9 rfl
  have ws9_89 : iI s9 89 = iI s6 89 := fm_iq Fs9 rfl
  have wos9 : iO s9 = iO s6 := fm_o Fs9 (by decide)
  show WS k 989 [(5, .int (Int32.ofInt e7)), (0, .ref q1), (1, .ref (A 0)), (2, .ref (A 179)), (3, .ref (A 517)), (4, .int (Int32.ofInt i))] [.int (Int32.ofInt e10)] (Wd A dT s9) (ce + 1) (sl + 6)
  refine z_store X (lv' := [(6, .int (Int32.ofInt e10)), (5, .int (Int32.ofInt e7)), (0, .ref q1), (1, .ref (A 0)), (2, .ref (A 179)), (3, .ref (A 517)), (4, .int (Int32.ofInt i))]) rfl (by decide) (fun _ h => h) (z_goto X (t := 1866) rfl rfl (w_widen (ce' := ce + 29) (sl' := sl + 222) (by first | exact Nat.le_add_right _ _ | exact Nat.add_le_add_left (by decide) _ | omega) (by first | exact Nat.le_add_right _ _ | exact Nat.add_le_add_left (by decide) _ | omega) ?_))
  exact WS_lv (lv := [(0, .ref q1), (1, .ref (A 0)), (2, .ref (A 179)), (3, .ref (A 517)), (4, .int (Int32.ofInt i))]) (List.forall_mem_cons.mpr ⟨(List.Mem.tail _ (List.Mem.tail _ (List.Mem.head _))), (List.forall_mem_cons.mpr ⟨(List.Mem.tail _ (List.Mem.tail _ (List.Mem.tail _ (List.Mem.head _)))), (List.forall_mem_cons.mpr ⟨(List.Mem.tail _ (List.Mem.tail _ (List.Mem.tail _ (List.Mem.tail _ (List.Mem.head _))))), (List.forall_mem_cons.mpr ⟨(List.Mem.tail _ (List.Mem.tail _ (List.Mem.tail _ (List.Mem.tail _ (List.Mem.tail _ (List.Mem.head _)))))), (List.forall_mem_cons.mpr ⟨(List.Mem.tail _ (List.Mem.tail _ (List.Mem.tail _ (List.Mem.tail _ (List.Mem.tail _ (List.Mem.tail _ (List.Mem.head _))))))), (fun q h => absurd h List.not_mem_nil)⟩)⟩)⟩)⟩)⟩) (hk A _ Is9 JRLx_s9 JREQ_s9 (by first | exact oq_f34933ba ws9_89 ws6_89 p1 b4.1 | omega) (by first | exact oq_d7ce4408 ws9_12 ws6_12 p2 | omega) (by first | exact oq_5bcdc35f ws9_97 ws9_28 ws6_97 ws6_28 p3 | omega))
theorem lc_21 (G : GX l s0 D tys a0 dT) (GR : RS0 s0) (SF : SF0 s0) (GT : TXs0 s0) {k : kx_T} (X : AX k 350 dT) (E : kL k = l ∧ kS0 k = s0 ∧ kD k = D ∧ kR k = room_1) {q1 L : Nat} {xs : Nat → Int32} (S : SX k q1 L xs) (hL : L ≤ 3072) (I : Bd s) (jR : RLx s) (jREQ : REQ 39 234 28 s) (p1 : iI s 89 = 1) (p2 : iI s 12 ≤ 8) (p3 : iI s 28 = iI s 97) {i : Int} (hi : 0 ≤ i ∧ i + 6 ≤ (L : Int)) {ce sl : Nat} (hce : ce + 29 ≤ 601024) (hsl : sl + 222 ≤ 7293034) (hk : ∀ (A : Nat → Nat) (t : PS), Bd t → RLx t → REQ 39 234 28 t → iI t 89 = 1 → iI t 12 ≤ 8 → iI t 28 = iI t 97 → WS k 1866 [(0, .ref q1), (1, .ref (A 0)), (2, .ref (A 179)), (3, .ref (A 517)), (4, .int (Int32.ofInt i))] [] (Wd A dT t) (ce + 29) (sl + 222)) : WS k 994 [(0, .ref q1), (1, .ref (A 0)), (2, .ref (A 179)), (3, .ref (A 517)), (4, .int (Int32.ofInt i))] [] (Wd A dT s) ce sl := by
  have F : Fm [22, 23, 24, 25, 26, 27, 73, 77, 75, 78, 79, 80, 81, 92, 93, 94] [33, 26, 27, 28, 29, 30, 31, 32, 20, 36, 37, 21, 35, 38, 1022, 1023, 1460, 202, 204, 205, 206, 207, 208, 209, 210, 211, 212, 213, 214, 215, 216, 217, 218, 219, 220, 221, 222, 223, 224, 225, 226, 227, 203, 161, 230, 233, 231, 232, 228] s s := fm_rf _ _ s
  have b1 := bi_28 I
  have b2 := bi_97 I
  have b3 := bi_12 I
  have b4 := bi_89 I
  refine z_aload_n X (x := A 0) rfl (List.Mem.tail _ (List.Mem.head _)) (z_aload_n X (x := q1) rfl (List.Mem.head _) (z_load X (x := i) rfl (List.Mem.tail _ (List.Mem.tail _ (List.Mem.tail _ (List.Mem.tail _ (List.Mem.head _))))) (z_const X rfl (z_add X rfl (z_sld X S hL rfl (show 0 ≤ (i + 1) ∧ (i + 1) < (L : Int) by first | exact sx_in hi (by decide) | omega) ?_)))))
  have sr5 : rng (sc xs (i + 1)) := sc_rng
  refine z_aload_n X (x := A 517) rfl (List.Mem.tail _ (List.Mem.tail _ (List.Mem.tail _ (List.Mem.head _)))) (z_callL X (rm := rmN 331) (As := [.ref (A 0), .int (Int32.ofInt (sc xs (i + 1))), .ref (A 517)]) (st := []) rfl (by decide) rfl (by rw [E.1, E.2.1, E.2.2.1]; exact lw_grow G I (by omega)) ⟨by rw [E.2.2.2]; exact (show 14 + 1 ≤ 2048 by decide), by rw [E.2.2.2]; exact (show 8 + (4 + 11) + 290 ≤ 84000 by decide), by rw [E.2.2.2]; exact (show ce + 1 ≤ 601024 by first | exact rmo_1 hce (by decide) | exact rmo_2 hce (by decide) | omega), by rw [E.2.2.2]; exact (show sl + 6 ≤ 7293034 by first | exact rmo_1 hsl (by decide) | exact rmo_2 hsl (by decide) | omega)⟩ (Nat.le_of_ble_eq_true rfl) (fun vv A s6 hA2 hq => ?_) (fun ee A s6 hA2 hq => ?_))
  rotate_left
  · obtain ⟨Is6, Fs6, e7, hv, hrs6, hps6⟩ := hq; cases hv
  obtain ⟨Is6, Fs6, e7, hv, hrs6, hps6⟩ := hq
  cases hv
  rw [← hA2 0 (by decide)]
  rw [← hA2 179 (by decide)]
  rw [← hA2 517 (by decide)]
  have Gs6 := fm_tq F Fs6 rfl rfl
  have JRLx_s6 : RLx s6 := RLx_fm Fs6 (by decide) jR
  have JREQ_s6 : REQ 39 234 28 s6 := REQ_fm Fs6 (by decide) jREQ
  have ws6_28 : iI s6 28 = iI s 28 := fm_iq Fs6 rfl
  have ws6_97 : iI s6 97 = iI s 97 := fm_iq Fs6 rfl
  have ws6_12 : iI s6 12 = iI s 12 := fm_iq Fs6 rfl
  have ws6_89 : iI s6 89 = iI s 89 := fm_iq Fs6 rfl
  show WS k 1005 [(0, .ref q1), (1, .ref (A 0)), (2, .ref (A 179)), (3, .ref (A 517)), (4, .int (Int32.ofInt i))] [.int (Int32.ofInt e7)] (Wd A dT s6) (ce + 1) (sl + 6)
  refine z_store X (lv' := [(5, .int (Int32.ofInt e7)), (0, .ref q1), (1, .ref (A 0)), (2, .ref (A 179)), (3, .ref (A 517)), (4, .int (Int32.ofInt i))]) rfl (by decide) (fun _ h => h) (z_aload_n X (x := A 179) rfl (List.Mem.tail _ (List.Mem.tail _ (List.Mem.tail _ (List.Mem.head _)))) (z_aload_n X (x := q1) rfl (List.Mem.tail _ (List.Mem.head _)) (z_load X (x := i) rfl (List.Mem.tail _ (List.Mem.tail _ (List.Mem.tail _ (List.Mem.tail _ (List.Mem.tail _ (List.Mem.head _)))))) (z_const X rfl (z_add X rfl (z_sld X S hL rfl (show 0 ≤ (i + 1) ∧ (i + 1) < (L : Int) by first | exact sx_in hi (by decide) | omega) ?_))))))
  have sr8 : rng (sc xs (i + 1)) := sc_rng
  refine z_callV X 179 (rm := rmN 257) (As := [.int (Int32.ofInt (sc xs (i + 1)))]) (st := []) rfl rfl (by decide) rfl (by rw [E.1, E.2.1, E.2.2.1]; exact k_grow G Is6 JRLx_s6 (by first | exact ⟨sr8.1, sr8.2⟩ | omega)) ⟨by rw [E.2.2.2]; exact (show 42 + 1 ≤ 2048 from oq_38aede7b), by rw [E.2.2.2]; exact (show 8 + (3 + 11) + 1687 ≤ 84000 from oq_e190c71b), by rw [E.2.2.2]; exact (show (ce + 1) + 0 ≤ 601024 by omega), by rw [E.2.2.2]; exact (show (sl + 6) + 0 ≤ 7293034 by omega)⟩ (Nat.le_of_ble_eq_true rfl) (fun vv s9 hq => ?_) (fun ee s9 hq => ?_)
  rotate_left
  · obtain ⟨Is9, Fs9, JRLx_s9, e10, hv, hrs9, hps9⟩ := hq; cases hv
  obtain ⟨Is9, Fs9, JRLx_s9, e10, hv, hrs9, hps9⟩ := hq
  cases hv
  have Gs9 := fm_tq Gs6 Fs9 rfl rfl
  have JRLx_s9 : RLx s9 := RLx_fm Fs9 (by decide) JRLx_s6
  have JREQ_s9 : REQ 39 234 28 s9 := REQ_fm Fs9 (by decide) JREQ_s6
  have ws9_28 : iI s9 28 = iI s6 28 := fm_iq Fs9 rfl
  have ws9_97 : iI s9 97 = iI s6 97 := fm_iq Fs9 rfl
  have ws9_12 : iI s9 12 = iI s6 12 := fm_iq Fs9 rfl
  have ws9_89 : iI s9 89 = iI s6 89 := fm_iq Fs9 rfl
  have wos9 : iO s9 = iO s6 := fm_o Fs9 (by decide)
  show WS k 1017 [(5, .int (Int32.ofInt e7)), (0, .ref q1), (1, .ref (A 0)), (2, .ref (A 179)), (3, .ref (A 517)), (4, .int (Int32.ofInt i))] [.int (Int32.ofInt e10)] (Wd A dT s9) (ce + 1) (sl + 6)
  refine z_store X (lv' := [(6, .int (Int32.ofInt e10)), (5, .int (Int32.ofInt e7)), (0, .ref q1), (1, .ref (A 0)), (2, .ref (A 179)), (3, .ref (A 517)), (4, .int (Int32.ofInt i))]) rfl (by decide) (fun _ h => h) (z_goto X (t := 1866) rfl rfl (w_widen (ce' := ce + 29) (sl' := sl + 222) (by first | exact Nat.le_add_right _ _ | exact Nat.add_le_add_left (by decide) _ | omega) (by first | exact Nat.le_add_right _ _ | exact Nat.add_le_add_left (by decide) _ | omega) ?_))
  exact WS_lv (lv := [(0, .ref q1), (1, .ref (A 0)), (2, .ref (A 179)), (3, .ref (A 517)), (4, .int (Int32.ofInt i))]) (List.forall_mem_cons.mpr ⟨(List.Mem.tail _ (List.Mem.tail _ (List.Mem.head _))), (List.forall_mem_cons.mpr ⟨(List.Mem.tail _ (List.Mem.tail _ (List.Mem.tail _ (List.Mem.head _)))), (List.forall_mem_cons.mpr ⟨(List.Mem.tail _ (List.Mem.tail _ (List.Mem.tail _ (List.Mem.tail _ (List.Mem.head _))))), (List.forall_mem_cons.mpr ⟨(List.Mem.tail _ (List.Mem.tail _ (List.Mem.tail _ (List.Mem.tail _ (List.Mem.tail _ (List.Mem.head _)))))), (List.forall_mem_cons.mpr ⟨(List.Mem.tail _ (List.Mem.tail _ (List.Mem.tail _ (List.Mem.tail _ (List.Mem.tail _ (List.Mem.tail _ (List.Mem.head _))))))), (fun q h => absurd h List.not_mem_nil)⟩)⟩)⟩)⟩)⟩) (hk A _ Is9 JRLx_s9 JREQ_s9 (by first | exact oq_f34933ba ws9_89 ws6_89 p1 b4.1 | omega) (by first | exact oq_d7ce4408 ws9_12 ws6_12 p2 | omega) (by first | exact oq_5bcdc35f ws9_97 ws9_28 ws6_97 ws6_28 p3 | omega))
theorem lc_22 (G : GX l s0 D tys a0 dT) (GR : RS0 s0) (SF : SF0 s0) (GT : TXs0 s0) {k : kx_T} (X : AX k 350 dT) (E : kL k = l ∧ kS0 k = s0 ∧ kD k = D ∧ kR k = room_1) {q1 L : Nat} {xs : Nat → Int32} (S : SX k q1 L xs) (hL : L ≤ 3072) (I : Bd s) (jR : RLx s) (jREQ : REQ 39 234 28 s) (p1 : iI s 89 = 1) (p2 : iI s 12 ≤ 8) (p3 : iI s 28 = iI s 97) {i : Int} (hi : 0 ≤ i ∧ i + 6 ≤ (L : Int)) {ce sl : Nat} (hce : ce + 29 ≤ 601024) (hsl : sl + 222 ≤ 7293034) (hk : ∀ (A : Nat → Nat) (t : PS), Bd t → RLx t → REQ 39 234 28 t → iI t 89 = 1 → iI t 12 ≤ 8 → iI t 28 = iI t 97 → WS k 1866 [(0, .ref q1), (1, .ref (A 0)), (2, .ref (A 179)), (3, .ref (A 517)), (4, .int (Int32.ofInt i))] [] (Wd A dT t) (ce + 29) (sl + 222)) : WS k 1022 [(0, .ref q1), (1, .ref (A 0)), (2, .ref (A 179)), (3, .ref (A 517)), (4, .int (Int32.ofInt i))] [] (Wd A dT s) ce sl := by
  have F : Fm [28, 73, 97] [39, 1460, 234] s s := fm_rf _ _ s
  have b1 := bi_28 I
  have b2 := bi_97 I
  have b3 := bi_12 I
  have b4 := bi_89 I
  refine z_aload_n X (x := A 0) rfl (List.Mem.tail _ (List.Mem.head _)) (z_aload_n X (x := q1) rfl (List.Mem.head _) (z_load X (x := i) rfl (List.Mem.tail _ (List.Mem.tail _ (List.Mem.tail _ (List.Mem.tail _ (List.Mem.head _))))) (z_const X rfl (z_add X rfl (z_sld X S hL rfl (show 0 ≤ (i + 1) ∧ (i + 1) < (L : Int) by first | exact sx_in hi (by decide) | omega) ?_)))))
  have sr5 : rng (sc xs (i + 1)) := sc_rng
  refine z_aload_n X (x := A 517) rfl (List.Mem.tail _ (List.Mem.tail _ (List.Mem.tail _ (List.Mem.head _)))) (z_callL X (rm := rmN 332) (As := [.ref (A 0), .int (Int32.ofInt (sc xs (i + 1))), .ref (A 517)]) (st := []) rfl (by decide) rfl (by rw [E.1, E.2.1, E.2.2.1]; exact lw_region2 G I (by omega)) ⟨by rw [E.2.2.2]; exact (show 8 + 1 ≤ 2048 by decide), by rw [E.2.2.2]; exact (show 8 + (4 + 11) + 143 ≤ 84000 by decide), by rw [E.2.2.2]; exact (show ce + 1 ≤ 601024 by first | exact rmo_1 hce (by decide) | exact rmo_2 hce (by decide) | omega), by rw [E.2.2.2]; exact (show sl + 6 ≤ 7293034 by first | exact rmo_1 hsl (by decide) | exact rmo_2 hsl (by decide) | omega)⟩ (Nat.le_of_ble_eq_true rfl) (fun vv A s6 hA2 hq => ?_) (fun ee A s6 hA2 hq => ?_))
  rotate_left
  · obtain ⟨Is6, Fs6, e7, hv, hrs6, hps6⟩ := hq; cases hv
  obtain ⟨Is6, Fs6, e7, hv, hrs6, hps6⟩ := hq
  cases hv
  rw [← hA2 0 (by decide)]
  rw [← hA2 179 (by decide)]
  rw [← hA2 517 (by decide)]
  have Gs6 := fm_tq F Fs6 rfl rfl
  have JRLx_s6 : RLx s6 := RLx_fm Fs6 (by decide) jR
  have b8 := bi_28 Is6
  have ws6_97 : iI s6 97 = iI s 97 := fm_iq Fs6 rfl
  have ws6_12 : iI s6 12 = iI s 12 := fm_iq Fs6 rfl
  have ws6_89 : iI s6 89 = iI s 89 := fm_iq Fs6 rfl
  show WS k 1033 [(0, .ref q1), (1, .ref (A 0)), (2, .ref (A 179)), (3, .ref (A 517)), (4, .int (Int32.ofInt i))] [.int (Int32.ofInt e7)] (Wd A dT s6) (ce + 1) (sl + 6)
  refine z_store X (lv' := [(5, .int (Int32.ofInt e7)), (0, .ref q1), (1, .ref (A 0)), (2, .ref (A 179)), (3, .ref (A 517)), (4, .int (Int32.ofInt i))]) rfl (by decide) (fun _ h => h) (z_aload_n X (x := A 179) rfl (List.Mem.tail _ (List.Mem.tail _ (List.Mem.tail _ (List.Mem.head _)))) (z_aload_n X (x := q1) rfl (List.Mem.tail _ (List.Mem.head _)) (z_load X (x := i) rfl (List.Mem.tail _ (List.Mem.tail _ (List.Mem.tail _ (List.Mem.tail _ (List.Mem.tail _ (List.Mem.head _)))))) (z_const X rfl (z_add X rfl (z_sld X S hL rfl (show 0 ≤ (i + 1) ∧ (i + 1) < (L : Int) by first | exact sx_in hi (by decide) | omega) ?_))))))
  have sr9 : rng (sc xs (i + 1)) := sc_rng
  refine z_callV X 179 (rm := rmN 258) (As := [.int (Int32.ofInt (sc xs (i + 1)))]) (st := []) rfl rfl (by decide) rfl (by rw [E.1, E.2.1, E.2.2.1]; exact k_region2 G Is6 (by first | exact ⟨sr9.1, sr9.2⟩ | omega)) ⟨by rw [E.2.2.2]; exact (show 7 + 1 ≤ 2048 from oq_4e6106eb), by rw [E.2.2.2]; exact (show 8 + (3 + 11) + 122 ≤ 84000 from oq_38d194b9), by rw [E.2.2.2]; exact (show (ce + 1) + 0 ≤ 601024 by first | (clear hps6; omega) | omega), by rw [E.2.2.2]; exact (show (sl + 6) + 0 ≤ 7293034 by first | (clear hps6; omega) | omega)⟩ (Nat.le_of_ble_eq_true rfl) (fun vv s10 hq => ?_) (fun ee s10 hq => ?_)
  rotate_left
  · obtain ⟨Is10, Fs10, e11, hv, hrs10, hps10⟩ := hq; cases hv
  obtain ⟨Is10, Fs10, e11, hv, hrs10, hps10⟩ := hq
  cases hv
  have Gs10 := fm_tq Gs6 Fs10 rfl rfl
  have JRLx_s10 : RLx s10 := RLx_fm Fs10 (by decide) JRLx_s6
  have ws10_28 : iI s10 28 = iI s6 28 := fm_iq Fs10 rfl
  have b12 := bi_97 Is10
  have ws10_12 : iI s10 12 = iI s6 12 := fm_iq Fs10 rfl
  have ws10_89 : iI s10 89 = iI s6 89 := fm_iq Fs10 rfl
  have wos10 : iO s10 = iO s6 := fm_o Fs10 (by decide)
  show WS k 1045 [(5, .int (Int32.ofInt e7)), (0, .ref q1), (1, .ref (A 0)), (2, .ref (A 179)), (3, .ref (A 517)), (4, .int (Int32.ofInt i))] [.int (Int32.ofInt e11)] (Wd A dT s10) (ce + 1) (sl + 6)
  rcases hps6 with cc | cc | cc | cc
  ·
    rcases hps10 with mm | mm | mm | mm
    ·
      have jq13 : REQ 39 234 28 s10 := req_sam jREQ (sam_ts cc.2.2.2 (sam_fm Fs10 (by decide))) (sam_ts (sam_fm Fs6 (by decide)) mm.2.2.2) (by first | (clear hps10 hps6; omega) | (clear hps6; omega) | omega)
      refine z_store X (lv' := [(6, .int (Int32.ofInt e11)), (5, .int (Int32.ofInt e7)), (0, .ref q1), (1, .ref (A 0)), (2, .ref (A 179)), (3, .ref (A 517)), (4, .int (Int32.ofInt i))]) rfl (by decide) (fun _ h => h) (z_goto X (t := 1866) rfl rfl (w_widen (ce' := ce + 29) (sl' := sl + 222) (by first | exact Nat.le_add_right _ _ | exact Nat.add_le_add_left (by decide) _ | omega) (by first | exact Nat.le_add_right _ _ | exact Nat.add_le_add_left (by decide) _ | omega) ?_))
      exact WS_lv (lv := [(0, .ref q1), (1, .ref (A 0)), (2, .ref (A 179)), (3, .ref (A 517)), (4, .int (Int32.ofInt i))]) (List.forall_mem_cons.mpr ⟨(List.Mem.tail _ (List.Mem.tail _ (List.Mem.head _))), (List.forall_mem_cons.mpr ⟨(List.Mem.tail _ (List.Mem.tail _ (List.Mem.tail _ (List.Mem.head _)))), (List.forall_mem_cons.mpr ⟨(List.Mem.tail _ (List.Mem.tail _ (List.Mem.tail _ (List.Mem.tail _ (List.Mem.head _))))), (List.forall_mem_cons.mpr ⟨(List.Mem.tail _ (List.Mem.tail _ (List.Mem.tail _ (List.Mem.tail _ (List.Mem.tail _ (List.Mem.head _)))))), (List.forall_mem_cons.mpr ⟨(List.Mem.tail _ (List.Mem.tail _ (List.Mem.tail _ (List.Mem.tail _ (List.Mem.tail _ (List.Mem.tail _ (List.Mem.head _))))))), (fun q h => absurd h List.not_mem_nil)⟩)⟩)⟩)⟩)⟩) (hk A _ Is10 JRLx_s10 jq13 (by first | exact oq_f34933ba ws10_89 ws6_89 p1 b4.1 | omega) (by first | exact oq_d7ce4408 ws10_12 ws6_12 p2 | omega) (by first | (clear hps10 hps6; omega) | (clear hps6; omega) | omega))
    ·
      exfalso
      omega
    ·
      exfalso
      omega
    ·
      exfalso
      omega
  ·
    rcases hps10 with mm | mm | mm | mm
    ·
      exfalso
      omega
    ·
      have jq14 : REQ 39 234 28 s10 := req_sam jREQ (sam_ts cc.2.2.2.2.2.2 (sam_fm Fs10 (by decide))) (sam_ts (sam_fm Fs6 (by decide)) mm.2.2.2.2.2.2) (by first | (clear hps10 hps6; omega) | (clear hps6; omega) | omega)
      refine z_store X (lv' := [(6, .int (Int32.ofInt e11)), (5, .int (Int32.ofInt e7)), (0, .ref q1), (1, .ref (A 0)), (2, .ref (A 179)), (3, .ref (A 517)), (4, .int (Int32.ofInt i))]) rfl (by decide) (fun _ h => h) (z_goto X (t := 1866) rfl rfl (w_widen (ce' := ce + 29) (sl' := sl + 222) (by first | exact Nat.le_add_right _ _ | exact Nat.add_le_add_left (by decide) _ | omega) (by first | exact Nat.le_add_right _ _ | exact Nat.add_le_add_left (by decide) _ | omega) ?_))
      exact WS_lv (lv := [(0, .ref q1), (1, .ref (A 0)), (2, .ref (A 179)), (3, .ref (A 517)), (4, .int (Int32.ofInt i))]) (List.forall_mem_cons.mpr ⟨(List.Mem.tail _ (List.Mem.tail _ (List.Mem.head _))), (List.forall_mem_cons.mpr ⟨(List.Mem.tail _ (List.Mem.tail _ (List.Mem.tail _ (List.Mem.head _)))), (List.forall_mem_cons.mpr ⟨(List.Mem.tail _ (List.Mem.tail _ (List.Mem.tail _ (List.Mem.tail _ (List.Mem.head _))))), (List.forall_mem_cons.mpr ⟨(List.Mem.tail _ (List.Mem.tail _ (List.Mem.tail _ (List.Mem.tail _ (List.Mem.tail _ (List.Mem.head _)))))), (List.forall_mem_cons.mpr ⟨(List.Mem.tail _ (List.Mem.tail _ (List.Mem.tail _ (List.Mem.tail _ (List.Mem.tail _ (List.Mem.tail _ (List.Mem.head _))))))), (fun q h => absurd h List.not_mem_nil)⟩)⟩)⟩)⟩)⟩) (hk A _ Is10 JRLx_s10 jq14 (by first | exact oq_f34933ba ws10_89 ws6_89 p1 b4.1 | omega) (by first | exact oq_d7ce4408 ws10_12 ws6_12 p2 | omega) (by first | (clear hps10 hps6; omega) | (clear hps6; omega) | omega))
    ·
      exfalso
      omega
    ·
      exfalso
      omega
  ·
    rcases hps10 with mm | mm | mm | mm
    ·
      exfalso
      omega
    ·
      exfalso
      omega
    ·
      have jq15 : REQ 39 234 28 s10 := req_sam jREQ (sam_ts cc.2.2.2.2.2.2.2 (sam_fm Fs10 (by decide))) (sam_ts (sam_fm Fs6 (by decide)) mm.2.2.2.2.2.2.2) (by first | (clear hps10 hps6; omega) | (clear hps6; omega) | omega)
      refine z_store X (lv' := [(6, .int (Int32.ofInt e11)), (5, .int (Int32.ofInt e7)), (0, .ref q1), (1, .ref (A 0)), (2, .ref (A 179)), (3, .ref (A 517)), (4, .int (Int32.ofInt i))]) rfl (by decide) (fun _ h => h) (z_goto X (t := 1866) rfl rfl (w_widen (ce' := ce + 29) (sl' := sl + 222) (by first | exact Nat.le_add_right _ _ | exact Nat.add_le_add_left (by decide) _ | omega) (by first | exact Nat.le_add_right _ _ | exact Nat.add_le_add_left (by decide) _ | omega) ?_))
      exact WS_lv (lv := [(0, .ref q1), (1, .ref (A 0)), (2, .ref (A 179)), (3, .ref (A 517)), (4, .int (Int32.ofInt i))]) (List.forall_mem_cons.mpr ⟨(List.Mem.tail _ (List.Mem.tail _ (List.Mem.head _))), (List.forall_mem_cons.mpr ⟨(List.Mem.tail _ (List.Mem.tail _ (List.Mem.tail _ (List.Mem.head _)))), (List.forall_mem_cons.mpr ⟨(List.Mem.tail _ (List.Mem.tail _ (List.Mem.tail _ (List.Mem.tail _ (List.Mem.head _))))), (List.forall_mem_cons.mpr ⟨(List.Mem.tail _ (List.Mem.tail _ (List.Mem.tail _ (List.Mem.tail _ (List.Mem.tail _ (List.Mem.head _)))))), (List.forall_mem_cons.mpr ⟨(List.Mem.tail _ (List.Mem.tail _ (List.Mem.tail _ (List.Mem.tail _ (List.Mem.tail _ (List.Mem.tail _ (List.Mem.head _))))))), (fun q h => absurd h List.not_mem_nil)⟩)⟩)⟩)⟩)⟩) (hk A _ Is10 JRLx_s10 jq15 (by first | exact oq_f34933ba ws10_89 ws6_89 p1 b4.1 | omega) (by first | exact oq_d7ce4408 ws10_12 ws6_12 p2 | omega) (by first | (clear hps10 hps6; omega) | (clear hps6; omega) | omega))
    ·
      exact (req_no jREQ (sam_fm Fs6 (by decide)) cc.2.2.2.2.2.2.1 mm.2.2.2.2.2.2.1 (by first | (clear hps10 hps6; omega) | (clear hps6; omega) | omega) (by first | (clear hps10 hps6; omega) | (clear hps6; omega) | omega)).elim
  ·
    rcases hps10 with mm | mm | mm | mm
    ·
      exfalso
      omega
    ·
      exfalso
      omega
    ·
      exact (req_no2 jREQ (sam_fm Fs6 (by decide)) cc.2.2.2.2.2.2.1 mm.2.2.2.2.2.2.1 (by first | (clear hps10 hps6; omega) | (clear hps6; omega) | omega) (by first | (clear hps10 hps6; omega) | (clear hps6; omega) | omega)).elim
    ·
      have jq16 : REQ 39 234 28 s10 := req_upd jREQ cc.2.2.2.2.2.2.2 (sam_fm Fs6 (by decide)) mm.2.2.2.2.2.2.2 (sam_fm Fs10 (by decide)) (by first | (clear hps10 hps6; omega) | (clear hps6; omega) | omega) (by first | (clear hps10 hps6; omega) | (clear hps6; omega) | omega) (by first | (clear hps10 hps6; omega) | (clear hps6; omega) | omega) (by first | (clear hps10 hps6; omega) | (clear hps6; omega) | omega)
      refine z_store X (lv' := [(6, .int (Int32.ofInt e11)), (5, .int (Int32.ofInt e7)), (0, .ref q1), (1, .ref (A 0)), (2, .ref (A 179)), (3, .ref (A 517)), (4, .int (Int32.ofInt i))]) rfl (by decide) (fun _ h => h) (z_goto X (t := 1866) rfl rfl (w_widen (ce' := ce + 29) (sl' := sl + 222) (by first | exact Nat.le_add_right _ _ | exact Nat.add_le_add_left (by decide) _ | omega) (by first | exact Nat.le_add_right _ _ | exact Nat.add_le_add_left (by decide) _ | omega) ?_))
      exact WS_lv (lv := [(0, .ref q1), (1, .ref (A 0)), (2, .ref (A 179)), (3, .ref (A 517)), (4, .int (Int32.ofInt i))]) (List.forall_mem_cons.mpr ⟨(List.Mem.tail _ (List.Mem.tail _ (List.Mem.head _))), (List.forall_mem_cons.mpr ⟨(List.Mem.tail _ (List.Mem.tail _ (List.Mem.tail _ (List.Mem.head _)))), (List.forall_mem_cons.mpr ⟨(List.Mem.tail _ (List.Mem.tail _ (List.Mem.tail _ (List.Mem.tail _ (List.Mem.head _))))), (List.forall_mem_cons.mpr ⟨(List.Mem.tail _ (List.Mem.tail _ (List.Mem.tail _ (List.Mem.tail _ (List.Mem.tail _ (List.Mem.head _)))))), (List.forall_mem_cons.mpr ⟨(List.Mem.tail _ (List.Mem.tail _ (List.Mem.tail _ (List.Mem.tail _ (List.Mem.tail _ (List.Mem.tail _ (List.Mem.head _))))))), (fun q h => absurd h List.not_mem_nil)⟩)⟩)⟩)⟩)⟩) (hk A _ Is10 JRLx_s10 jq16 (by first | exact oq_f34933ba ws10_89 ws6_89 p1 b4.1 | omega) (by first | exact oq_d7ce4408 ws10_12 ws6_12 p2 | omega) (by first | (clear hps10 hps6; omega) | (clear hps6; omega) | omega))
theorem lc_23 (G : GX l s0 D tys a0 dT) (GR : RS0 s0) (SF : SF0 s0) (GT : TXs0 s0) {k : kx_T} (X : AX k 350 dT) (E : kL k = l ∧ kS0 k = s0 ∧ kD k = D ∧ kR k = room_1) {q1 L : Nat} {xs : Nat → Int32} (S : SX k q1 L xs) (hL : L ≤ 3072) (I : Bd s) (jR : RLx s) (jREQ : REQ 39 234 28 s) (p1 : iI s 89 = 1) (p2 : iI s 12 ≤ 8) (p3 : iI s 28 = iI s 97) {i : Int} (hi : 0 ≤ i ∧ i + 6 ≤ (L : Int)) {ce sl : Nat} (hce : ce + 29 ≤ 601024) (hsl : sl + 222 ≤ 7293034) (hk : ∀ (A : Nat → Nat) (t : PS), Bd t → RLx t → REQ 39 234 28 t → iI t 89 = 1 → iI t 12 ≤ 8 → iI t 28 = iI t 97 → WS k 1866 [(0, .ref q1), (1, .ref (A 0)), (2, .ref (A 179)), (3, .ref (A 517)), (4, .int (Int32.ofInt i))] [] (Wd A dT t) (ce + 29) (sl + 222)) : WS k 1050 [(0, .ref q1), (1, .ref (A 0)), (2, .ref (A 179)), (3, .ref (A 517)), (4, .int (Int32.ofInt i))] [] (Wd A dT s) ce sl := by
  have F : Fm [22, 23, 24, 31, 29, 30, 73, 77, 75, 78, 79, 80, 81, 100, 101] [33, 26, 27, 28, 29, 30, 31, 32, 20, 40, 41, 42, 45, 43, 44, 1460, 202, 204, 205, 206, 207, 208, 209, 210, 211, 212, 213, 214, 215, 216, 217, 218, 219, 220, 221, 222, 223, 224, 225, 226, 227, 203, 161, 230, 231, 232, 240, 238, 239, 236, 235] s s := fm_rf _ _ s
  have b1 := bi_28 I
  have b2 := bi_97 I
  have b3 := bi_12 I
  have b4 := bi_89 I
  refine z_aload_n X (x := A 0) rfl (List.Mem.tail _ (List.Mem.head _)) (z_aload_n X (x := q1) rfl (List.Mem.head _) (z_load X (x := i) rfl (List.Mem.tail _ (List.Mem.tail _ (List.Mem.tail _ (List.Mem.tail _ (List.Mem.head _))))) (z_const X rfl (z_add X rfl (z_sld X S hL rfl (show 0 ≤ (i + 1) ∧ (i + 1) < (L : Int) by first | exact sx_in hi (by decide) | omega) ?_)))))
  have sr5 : rng (sc xs (i + 1)) := sc_rng
  refine z_aload_n X (x := q1) rfl (List.Mem.head _) (z_load X (x := i) rfl (List.Mem.tail _ (List.Mem.tail _ (List.Mem.tail _ (List.Mem.tail _ (List.Mem.head _))))) (z_const X rfl (z_add X rfl (z_sld X S hL rfl (show 0 ≤ (i + 2) ∧ (i + 2) < (L : Int) by first | exact sx_in hi (by decide) | omega) ?_))))
  have sr6 : rng (sc xs (i + 2)) := sc_rng
  refine z_aload_n X (x := A 517) rfl (List.Mem.tail _ (List.Mem.tail _ (List.Mem.tail _ (List.Mem.head _)))) (z_callL X (rm := rmN 333) (As := [.ref (A 0), .int (Int32.ofInt (sc xs (i + 1))), .int (Int32.ofInt (sc xs (i + 2))), .ref (A 517)]) (st := []) rfl (by decide) rfl (by rw [E.1, E.2.1, E.2.2.1]; exact lw_parted G I (by omega) (by omega)) ⟨by rw [E.2.2.2]; exact (show 35 + 1 ≤ 2048 by decide), by rw [E.2.2.2]; exact (show 8 + (5 + 11) + 1468 ≤ 84000 by decide), by rw [E.2.2.2]; exact (show ce + 2 ≤ 601024 by first | exact rmo_1 hce (by decide) | exact rmo_2 hce (by decide) | omega), by rw [E.2.2.2]; exact (show sl + 12 ≤ 7293034 by first | exact rmo_1 hsl (by decide) | exact rmo_2 hsl (by decide) | omega)⟩ (Nat.le_of_ble_eq_true rfl) (fun vv A s7 hA2 hq => ?_) (fun ee A s7 hA2 hq => ?_))
  rotate_left
  · obtain ⟨Is7, Fs7, e8, hv, hrs7, hps7⟩ := hq; cases hv
  obtain ⟨Is7, Fs7, e8, hv, hrs7, hps7⟩ := hq
  cases hv
  rw [← hA2 0 (by decide)]
  rw [← hA2 179 (by decide)]
  rw [← hA2 517 (by decide)]
  have Gs7 := fm_tq F Fs7 rfl rfl
  have JRLx_s7 : RLx s7 := RLx_fm Fs7 (by decide) jR
  have JREQ_s7 : REQ 39 234 28 s7 := REQ_fm Fs7 (by decide) jREQ
  have ws7_28 : iI s7 28 = iI s 28 := fm_iq Fs7 rfl
  have ws7_97 : iI s7 97 = iI s 97 := fm_iq Fs7 rfl
  have ws7_12 : iI s7 12 = iI s 12 := fm_iq Fs7 rfl
  have ws7_89 : iI s7 89 = iI s 89 := fm_iq Fs7 rfl
  show WS k 1067 [(0, .ref q1), (1, .ref (A 0)), (2, .ref (A 179)), (3, .ref (A 517)), (4, .int (Int32.ofInt i))] [.int (Int32.ofInt e8)] (Wd A dT s7) (ce + 2) (sl + 12)
  refine z_store X (lv' := [(5, .int (Int32.ofInt e8)), (0, .ref q1), (1, .ref (A 0)), (2, .ref (A 179)), (3, .ref (A 517)), (4, .int (Int32.ofInt i))]) rfl (by decide) (fun _ h => h) (z_aload_n X (x := A 179) rfl (List.Mem.tail _ (List.Mem.tail _ (List.Mem.tail _ (List.Mem.head _)))) (z_aload_n X (x := q1) rfl (List.Mem.tail _ (List.Mem.head _)) (z_load X (x := i) rfl (List.Mem.tail _ (List.Mem.tail _ (List.Mem.tail _ (List.Mem.tail _ (List.Mem.tail _ (List.Mem.head _)))))) (z_const X rfl (z_add X rfl (z_sld X S hL rfl (show 0 ≤ (i + 1) ∧ (i + 1) < (L : Int) by first | exact sx_in hi (by decide) | omega) ?_))))))
  have sr9 : rng (sc xs (i + 1)) := sc_rng
  refine z_aload_n X (x := q1) rfl (List.Mem.tail _ (List.Mem.head _)) (z_load X (x := i) rfl (List.Mem.tail _ (List.Mem.tail _ (List.Mem.tail _ (List.Mem.tail _ (List.Mem.tail _ (List.Mem.head _)))))) (z_const X rfl (z_add X rfl (z_sld X S hL rfl (show 0 ≤ (i + 2) ∧ (i + 2) < (L : Int) by first | exact sx_in hi (by decide) | omega) ?_))))
  have sr10 : rng (sc xs (i + 2)) := sc_rng
  refine z_callV X 179 (rm := rmN 263) (As := [.int (Int32.ofInt (sc xs (i + 1))), .int (Int32.ofInt (sc xs (i + 2)))]) (st := []) rfl rfl (by decide) rfl (by rw [E.1, E.2.1, E.2.2.1]; exact k_parted G Is7 JRLx_s7 (by first | exact ⟨sr9.1, sr9.2⟩ | omega) (by first | exact ⟨sr10.1, sr10.2⟩ | omega)) ⟨by rw [E.2.2.2]; exact (show 38 + 1 ≤ 2048 from oq_a3fac05c), by rw [E.2.2.2]; exact (show 8 + (3 + 11) + 1601 ≤ 84000 from oq_e81fc71d), by rw [E.2.2.2]; exact (show (ce + 2) + 0 ≤ 601024 by omega), by rw [E.2.2.2]; exact (show (sl + 12) + 0 ≤ 7293034 by omega)⟩ (Nat.le_of_ble_eq_true rfl) (fun vv s11 hq => ?_) (fun ee s11 hq => ?_)
  rotate_left
  · obtain ⟨Is11, Fs11, JRLx_s11, e12, hv, hrs11, hps11⟩ := hq; cases hv
  obtain ⟨Is11, Fs11, JRLx_s11, e12, hv, hrs11, hps11⟩ := hq
  cases hv
  have Gs11 := fm_tq Gs7 Fs11 rfl rfl
  have JRLx_s11 : RLx s11 := RLx_fm Fs11 (by decide) JRLx_s7
  have JREQ_s11 : REQ 39 234 28 s11 := REQ_fm Fs11 (by decide) JREQ_s7
  have ws11_28 : iI s11 28 = iI s7 28 := fm_iq Fs11 rfl
  have ws11_97 : iI s11 97 = iI s7 97 := fm_iq Fs11 rfl
  have ws11_12 : iI s11 12 = iI s7 12 := fm_iq Fs11 rfl
  have ws11_89 : iI s11 89 = iI s7 89 := fm_iq Fs11 rfl
  have wos11 : iO s11 = iO s7 := fm_o Fs11 (by decide)
  show WS k 1085 [(5, .int (Int32.ofInt e8)), (0, .ref q1), (1, .ref (A 0)), (2, .ref (A 179)), (3, .ref (A 517)), (4, .int (Int32.ofInt i))] [.int (Int32.ofInt e12)] (Wd A dT s11) (ce + 2) (sl + 12)
  refine z_store X (lv' := [(6, .int (Int32.ofInt e12)), (5, .int (Int32.ofInt e8)), (0, .ref q1), (1, .ref (A 0)), (2, .ref (A 179)), (3, .ref (A 517)), (4, .int (Int32.ofInt i))]) rfl (by decide) (fun _ h => h) (z_goto X (t := 1866) rfl rfl (w_widen (ce' := ce + 29) (sl' := sl + 222) (by first | exact Nat.le_add_right _ _ | exact Nat.add_le_add_left (by decide) _ | omega) (by first | exact Nat.le_add_right _ _ | exact Nat.add_le_add_left (by decide) _ | omega) ?_))
  exact WS_lv (lv := [(0, .ref q1), (1, .ref (A 0)), (2, .ref (A 179)), (3, .ref (A 517)), (4, .int (Int32.ofInt i))]) (List.forall_mem_cons.mpr ⟨(List.Mem.tail _ (List.Mem.tail _ (List.Mem.head _))), (List.forall_mem_cons.mpr ⟨(List.Mem.tail _ (List.Mem.tail _ (List.Mem.tail _ (List.Mem.head _)))), (List.forall_mem_cons.mpr ⟨(List.Mem.tail _ (List.Mem.tail _ (List.Mem.tail _ (List.Mem.tail _ (List.Mem.head _))))), (List.forall_mem_cons.mpr ⟨(List.Mem.tail _ (List.Mem.tail _ (List.Mem.tail _ (List.Mem.tail _ (List.Mem.tail _ (List.Mem.head _)))))), (List.forall_mem_cons.mpr ⟨(List.Mem.tail _ (List.Mem.tail _ (List.Mem.tail _ (List.Mem.tail _ (List.Mem.tail _ (List.Mem.tail _ (List.Mem.head _))))))), (fun q h => absurd h List.not_mem_nil)⟩)⟩)⟩)⟩)⟩) (hk A _ Is11 JRLx_s11 JREQ_s11 (by first | exact oq_f34933ba ws11_89 ws7_89 p1 b4.1 | omega) (by first | exact oq_d7ce4408 ws11_12 ws7_12 p2 | omega) (by first | exact oq_5bcdc35f ws11_97 ws11_28 ws7_97 ws7_28 p3 | omega))
theorem lc_24 (G : GX l s0 D tys a0 dT) (GR : RS0 s0) (SF : SF0 s0) (GT : TXs0 s0) {k : kx_T} (X : AX k 350 dT) (E : kL k = l ∧ kS0 k = s0 ∧ kD k = D ∧ kR k = room_1) {q1 L : Nat} {xs : Nat → Int32} (S : SX k q1 L xs) (hL : L ≤ 3072) (I : Bd s) (jR : RLx s) (jREQ : REQ 39 234 28 s) (p1 : iI s 89 = 1) (p2 : iI s 12 ≤ 8) (p3 : iI s 28 = iI s 97) {i : Int} (hi : 0 ≤ i ∧ i + 6 ≤ (L : Int)) {ce sl : Nat} (hce : ce + 29 ≤ 601024) (hsl : sl + 222 ≤ 7293034) (hk : ∀ (A : Nat → Nat) (t : PS), Bd t → RLx t → REQ 39 234 28 t → iI t 89 = 1 → iI t 12 ≤ 8 → iI t 28 = iI t 97 → WS k 1866 [(0, .ref q1), (1, .ref (A 0)), (2, .ref (A 179)), (3, .ref (A 517)), (4, .int (Int32.ofInt i))] [] (Wd A dT t) (ce + 29) (sl + 222)) : WS k 1090 [(0, .ref q1), (1, .ref (A 0)), (2, .ref (A 179)), (3, .ref (A 517)), (4, .int (Int32.ofInt i))] [] (Wd A dT s) ce sl := by
  have F : Fm [28, 73, 97] [] s s := fm_rf _ _ s
  have b1 := bi_28 I
  have b2 := bi_97 I
  have b3 := bi_12 I
  have b4 := bi_89 I
  refine z_aload_n X (x := A 0) rfl (List.Mem.tail _ (List.Mem.head _)) (z_callV X 0 (rm := rmN 159) (As := []) (st := []) rfl rfl (by decide) rfl (by rw [E.1, E.2.1, E.2.2.1]; exact cs_clear2 G I ) ⟨by rw [E.2.2.2]; exact (show 6 + 1 ≤ 2048 from oq_4d34cb53), by rw [E.2.2.2]; exact (show 8 + (2 + 11) + 100 ≤ 84000 from oq_8731b8c0), by rw [E.2.2.2]; exact (show ce + 0 ≤ 601024 by omega), by rw [E.2.2.2]; exact (show sl + 0 ≤ 7293034 by omega)⟩ (Nat.le_of_ble_eq_true rfl) (fun vv s5 hq => ?_) (fun ee s5 hq => ?_))
  rotate_left
  · obtain ⟨Is5, Fs5, e6, hv, hrs5, hps5⟩ := hq; cases hv
  obtain ⟨Is5, Fs5, e6, hv, hrs5, hps5⟩ := hq
  cases hv
  have Gs5 := fm_tq F Fs5 rfl rfl
  have JRLx_s5 : RLx s5 := RLx_fm Fs5 (by decide) jR
  have b7 := bi_28 Is5
  have ws5_97 : iI s5 97 = iI s 97 := fm_iq Fs5 rfl
  have ws5_12 : iI s5 12 = iI s 12 := fm_iq Fs5 rfl
  have ws5_89 : iI s5 89 = iI s 89 := fm_iq Fs5 rfl
  have wos5 : iO s5 = iO s := fm_o Fs5 (by decide)
  have jq8 : REQ 39 234 28 s5 := req_0 (by omega)
  show WS k 1094 [(0, .ref q1), (1, .ref (A 0)), (2, .ref (A 179)), (3, .ref (A 517)), (4, .int (Int32.ofInt i))] [.int (Int32.ofInt e6)] (Wd A dT s5) ce sl
  refine z_aload_n X (x := A 179) rfl (List.Mem.tail _ (List.Mem.tail _ (List.Mem.head _))) (z_callV X 179 (rm := rmN 259) (As := []) (st := [.int (Int32.ofInt e6)]) rfl rfl (by decide) rfl (by rw [E.1, E.2.1, E.2.2.1]; exact k_clear2 G Is5 ) ⟨by rw [E.2.2.2]; exact (show 6 + 1 ≤ 2048 from oq_4d34cb53), by rw [E.2.2.2]; exact (show 8 + (2 + 11) + 100 ≤ 84000 from oq_8731b8c0), by rw [E.2.2.2]; exact (show ce + 0 ≤ 601024 by omega), by rw [E.2.2.2]; exact (show sl + 0 ≤ 7293034 by omega)⟩ (Nat.le_of_ble_eq_true rfl) (fun vv s9 hq => ?_) (fun ee s9 hq => ?_))
  rotate_left
  · obtain ⟨Is9, Fs9, e10, hv, hrs9, hps9⟩ := hq; cases hv
  obtain ⟨Is9, Fs9, e10, hv, hrs9, hps9⟩ := hq
  cases hv
  have Gs9 := fm_tq Gs5 Fs9 rfl rfl
  have JRLx_s9 : RLx s9 := RLx_fm Fs9 (by decide) JRLx_s5
  have JREQ_s9 : REQ 39 234 28 s9 := REQ_fm Fs9 (by decide) jq8
  have ws9_28 : iI s9 28 = iI s5 28 := fm_iq Fs9 rfl
  have b11 := bi_97 Is9
  have ws9_12 : iI s9 12 = iI s5 12 := fm_iq Fs9 rfl
  have ws9_89 : iI s9 89 = iI s5 89 := fm_iq Fs9 rfl
  have wos9 : iO s9 = iO s5 := fm_o Fs9 (by decide)
  show WS k 1098 [(0, .ref q1), (1, .ref (A 0)), (2, .ref (A 179)), (3, .ref (A 517)), (4, .int (Int32.ofInt i))] [.int (Int32.ofInt e10), .int (Int32.ofInt e6)] (Wd A dT s9) ce sl
  refine z_icmp_eq X (t := 1866) rfl rfl hrs5 hrs9 (fun g12 => ?_) (fun g12 => ?_)
  ·
    refine w_widen (ce' := ce + 29) (sl' := sl + 222) (by first | exact Nat.le_add_right _ _ | exact Nat.add_le_add_left (by decide) _ | omega) (by first | exact Nat.le_add_right _ _ | exact Nat.add_le_add_left (by decide) _ | omega) ?_
    exact WS_lv (lv := [(0, .ref q1), (1, .ref (A 0)), (2, .ref (A 179)), (3, .ref (A 517)), (4, .int (Int32.ofInt i))]) (List.forall_mem_cons.mpr ⟨(List.Mem.head _), (List.forall_mem_cons.mpr ⟨(List.Mem.tail _ (List.Mem.head _)), (List.forall_mem_cons.mpr ⟨(List.Mem.tail _ (List.Mem.tail _ (List.Mem.head _))), (List.forall_mem_cons.mpr ⟨(List.Mem.tail _ (List.Mem.tail _ (List.Mem.tail _ (List.Mem.head _)))), (List.forall_mem_cons.mpr ⟨(List.Mem.tail _ (List.Mem.tail _ (List.Mem.tail _ (List.Mem.tail _ (List.Mem.head _))))), (fun q h => absurd h List.not_mem_nil)⟩)⟩)⟩)⟩)⟩) (hk A _ Is9 JRLx_s9 JREQ_s9 (by first | exact oq_f34933ba ws9_89 ws5_89 p1 b4.1 | omega) (by first | exact oq_d7ce4408 ws9_12 ws5_12 p2 | omega) (by first | exact oq_3eb7c1bb ws9_28 b11.1 hps5.2 hps9.2 b7.1 | omega))
  ·
    exfalso
    omega
theorem lc_25 (G : GX l s0 D tys a0 dT) (GR : RS0 s0) (SF : SF0 s0) (GT : TXs0 s0) {k : kx_T} (X : AX k 350 dT) (E : kL k = l ∧ kS0 k = s0 ∧ kD k = D ∧ kR k = room_1) {q1 L : Nat} {xs : Nat → Int32} (S : SX k q1 L xs) (hL : L ≤ 3072) (I : Bd s) (jR : RLx s) (jREQ : REQ 39 234 28 s) (p1 : iI s 89 = 1) (p2 : iI s 12 ≤ 8) (p3 : iI s 28 = iI s 97) {i : Int} (hi : 0 ≤ i ∧ i + 6 ≤ (L : Int)) {ce sl : Nat} (hce : ce + 29 ≤ 601024) (hsl : sl + 222 ≤ 7293034) (hk : ∀ (A : Nat → Nat) (t : PS), Bd t → RLx t → REQ 39 234 28 t → iI t 89 = 1 → iI t 12 ≤ 8 → iI t 28 = iI t 97 → WS k 1866 [(0, .ref q1), (1, .ref (A 0)), (2, .ref (A 179)), (3, .ref (A 517)), (4, .int (Int32.ofInt i))] [] (Wd A dT t) (ce + 29) (sl + 222)) : WS k 1103 [(0, .ref q1), (1, .ref (A 0)), (2, .ref (A 179)), (3, .ref (A 517)), (4, .int (Int32.ofInt i))] [] (Wd A dT s) ce sl := by
  have F : Fm [32, 73, 99] [46, 1460, 237] s s := fm_rf _ _ s
  have b1 := bi_28 I
  have b2 := bi_97 I
  have b3 := bi_12 I
  have b4 := bi_89 I
  refine z_aload_n X (x := A 0) rfl (List.Mem.tail _ (List.Mem.head _)) (z_aload_n X (x := q1) rfl (List.Mem.head _) (z_load X (x := i) rfl (List.Mem.tail _ (List.Mem.tail _ (List.Mem.tail _ (List.Mem.tail _ (List.Mem.head _))))) (z_const X rfl (z_add X rfl (z_sld X S hL rfl (show 0 ≤ (i + 1) ∧ (i + 1) < (L : Int) by first | exact sx_in hi (by decide) | omega) ?_)))))
  have sr5 : rng (sc xs (i + 1)) := sc_rng
  refine z_aload_n X (x := A 517) rfl (List.Mem.tail _ (List.Mem.tail _ (List.Mem.tail _ (List.Mem.head _)))) (z_callL X (rm := rmN 334) (As := [.ref (A 0), .int (Int32.ofInt (sc xs (i + 1))), .ref (A 517)]) (st := []) rfl (by decide) rfl (by rw [E.1, E.2.1, E.2.2.1]; exact lw_configure G I (by omega)) ⟨by rw [E.2.2.2]; exact (show 8 + 1 ≤ 2048 by decide), by rw [E.2.2.2]; exact (show 8 + (4 + 11) + 144 ≤ 84000 by decide), by rw [E.2.2.2]; exact (show ce + 1 ≤ 601024 by first | exact rmo_1 hce (by decide) | exact rmo_2 hce (by decide) | omega), by rw [E.2.2.2]; exact (show sl + 6 ≤ 7293034 by first | exact rmo_1 hsl (by decide) | exact rmo_2 hsl (by decide) | omega)⟩ (Nat.le_of_ble_eq_true rfl) (fun vv A s6 hA2 hq => ?_) (fun ee A s6 hA2 hq => ?_))
  rotate_left
  · obtain ⟨Is6, Fs6, e7, hv, hrs6, hps6⟩ := hq; cases hv
  obtain ⟨Is6, Fs6, e7, hv, hrs6, hps6⟩ := hq
  cases hv
  rw [← hA2 0 (by decide)]
  rw [← hA2 179 (by decide)]
  rw [← hA2 517 (by decide)]
  have Gs6 := fm_tq F Fs6 rfl rfl
  have JRLx_s6 : RLx s6 := RLx_fm Fs6 (by decide) jR
  have JREQ_s6 : REQ 39 234 28 s6 := REQ_fm Fs6 (by decide) jREQ
  have ws6_28 : iI s6 28 = iI s 28 := fm_iq Fs6 rfl
  have ws6_97 : iI s6 97 = iI s 97 := fm_iq Fs6 rfl
  have ws6_12 : iI s6 12 = iI s 12 := fm_iq Fs6 rfl
  have ws6_89 : iI s6 89 = iI s 89 := fm_iq Fs6 rfl
  show WS k 1114 [(0, .ref q1), (1, .ref (A 0)), (2, .ref (A 179)), (3, .ref (A 517)), (4, .int (Int32.ofInt i))] [.int (Int32.ofInt e7)] (Wd A dT s6) (ce + 1) (sl + 6)
  refine z_store X (lv' := [(5, .int (Int32.ofInt e7)), (0, .ref q1), (1, .ref (A 0)), (2, .ref (A 179)), (3, .ref (A 517)), (4, .int (Int32.ofInt i))]) rfl (by decide) (fun _ h => h) (z_aload_n X (x := A 179) rfl (List.Mem.tail _ (List.Mem.tail _ (List.Mem.tail _ (List.Mem.head _)))) (z_aload_n X (x := q1) rfl (List.Mem.tail _ (List.Mem.head _)) (z_load X (x := i) rfl (List.Mem.tail _ (List.Mem.tail _ (List.Mem.tail _ (List.Mem.tail _ (List.Mem.tail _ (List.Mem.head _)))))) (z_const X rfl (z_add X rfl (z_sld X S hL rfl (show 0 ≤ (i + 1) ∧ (i + 1) < (L : Int) by first | exact sx_in hi (by decide) | omega) ?_))))))
  have sr8 : rng (sc xs (i + 1)) := sc_rng
  refine z_callV X 179 (rm := rmN 264) (As := [.int (Int32.ofInt (sc xs (i + 1)))]) (st := []) rfl rfl (by decide) rfl (by rw [E.1, E.2.1, E.2.2.1]; exact k_configure G Is6 (by first | exact ⟨sr8.1, sr8.2⟩ | omega)) ⟨by rw [E.2.2.2]; exact (show 7 + 1 ≤ 2048 from oq_4e6106eb), by rw [E.2.2.2]; exact (show 8 + (2 + 11) + 122 ≤ 84000 from oq_f09e007f), by rw [E.2.2.2]; exact (show (ce + 1) + 0 ≤ 601024 by omega), by rw [E.2.2.2]; exact (show (sl + 6) + 0 ≤ 7293034 by omega)⟩ (Nat.le_of_ble_eq_true rfl) (fun vv s9 hq => ?_) (fun ee s9 hq => ?_)
  rotate_left
  · obtain ⟨Is9, Fs9, e10, hv, hrs9, hps9⟩ := hq; cases hv
  obtain ⟨Is9, Fs9, e10, hv, hrs9, hps9⟩ := hq
  cases hv
  have Gs9 := fm_tq Gs6 Fs9 rfl rfl
  have JRLx_s9 : RLx s9 := RLx_fm Fs9 (by decide) JRLx_s6
  have JREQ_s9 : REQ 39 234 28 s9 := REQ_fm Fs9 (by decide) JREQ_s6
  have ws9_28 : iI s9 28 = iI s6 28 := fm_iq Fs9 rfl
  have ws9_97 : iI s9 97 = iI s6 97 := fm_iq Fs9 rfl
  have ws9_12 : iI s9 12 = iI s6 12 := fm_iq Fs9 rfl
  have ws9_89 : iI s9 89 = iI s6 89 := fm_iq Fs9 rfl
  have wos9 : iO s9 = iO s6 := fm_o Fs9 (by decide)
  show WS k 1126 [(5, .int (Int32.ofInt e7)), (0, .ref q1), (1, .ref (A 0)), (2, .ref (A 179)), (3, .ref (A 517)), (4, .int (Int32.ofInt i))] [.int (Int32.ofInt e10)] (Wd A dT s9) (ce + 1) (sl + 6)
  refine z_store X (lv' := [(6, .int (Int32.ofInt e10)), (5, .int (Int32.ofInt e7)), (0, .ref q1), (1, .ref (A 0)), (2, .ref (A 179)), (3, .ref (A 517)), (4, .int (Int32.ofInt i))]) rfl (by decide) (fun _ h => h) (z_goto X (t := 1866) rfl rfl (w_widen (ce' := ce + 29) (sl' := sl + 222) (by first | exact Nat.le_add_right _ _ | exact Nat.add_le_add_left (by decide) _ | omega) (by first | exact Nat.le_add_right _ _ | exact Nat.add_le_add_left (by decide) _ | omega) ?_))
  exact WS_lv (lv := [(0, .ref q1), (1, .ref (A 0)), (2, .ref (A 179)), (3, .ref (A 517)), (4, .int (Int32.ofInt i))]) (List.forall_mem_cons.mpr ⟨(List.Mem.tail _ (List.Mem.tail _ (List.Mem.head _))), (List.forall_mem_cons.mpr ⟨(List.Mem.tail _ (List.Mem.tail _ (List.Mem.tail _ (List.Mem.head _)))), (List.forall_mem_cons.mpr ⟨(List.Mem.tail _ (List.Mem.tail _ (List.Mem.tail _ (List.Mem.tail _ (List.Mem.head _))))), (List.forall_mem_cons.mpr ⟨(List.Mem.tail _ (List.Mem.tail _ (List.Mem.tail _ (List.Mem.tail _ (List.Mem.tail _ (List.Mem.head _)))))), (List.forall_mem_cons.mpr ⟨(List.Mem.tail _ (List.Mem.tail _ (List.Mem.tail _ (List.Mem.tail _ (List.Mem.tail _ (List.Mem.tail _ (List.Mem.head _))))))), (fun q h => absurd h List.not_mem_nil)⟩)⟩)⟩)⟩)⟩) (hk A _ Is9 JRLx_s9 JREQ_s9 (by first | exact oq_f34933ba ws9_89 ws6_89 p1 b4.1 | omega) (by first | exact oq_d7ce4408 ws9_12 ws6_12 p2 | omega) (by first | exact oq_5bcdc35f ws9_97 ws9_28 ws6_97 ws6_28 p3 | omega))
theorem lc_26 (G : GX l s0 D tys a0 dT) (GR : RS0 s0) (SF : SF0 s0) (GT : TXs0 s0) {k : kx_T} (X : AX k 350 dT) (E : kL k = l ∧ kS0 k = s0 ∧ kD k = D ∧ kR k = room_1) {q1 L : Nat} {xs : Nat → Int32} (S : SX k q1 L xs) (hL : L ≤ 3072) (I : Bd s) (jR : RLx s) (jREQ : REQ 39 234 28 s) (p1 : iI s 89 = 1) (p2 : iI s 12 ≤ 8) (p3 : iI s 28 = iI s 97) {i : Int} (hi : 0 ≤ i ∧ i + 6 ≤ (L : Int)) {ce sl : Nat} (hce : ce + 29 ≤ 601024) (hsl : sl + 222 ≤ 7293034) (hk : ∀ (A : Nat → Nat) (t : PS), Bd t → RLx t → REQ 39 234 28 t → iI t 89 = 1 → iI t 12 ≤ 8 → iI t 28 = iI t 97 → WS k 1866 [(0, .ref q1), (1, .ref (A 0)), (2, .ref (A 179)), (3, .ref (A 517)), (4, .int (Int32.ofInt i))] [] (Wd A dT t) (ce + 29) (sl + 222)) : WS k 1131 [(0, .ref q1), (1, .ref (A 0)), (2, .ref (A 179)), (3, .ref (A 517)), (4, .int (Int32.ofInt i))] [] (Wd A dT s) ce sl := by
  have F : Fm [22, 23, 24, 73, 89, 77, 75, 78, 79, 80, 81] [33, 26, 27, 28, 29, 30, 31, 32, 20, 48, 47, 1460, 202, 204, 205, 206, 207, 208, 209, 210, 211, 212, 213, 214, 215, 216, 217, 218, 219, 220, 221, 222, 223, 224, 225, 226, 227, 203, 161, 230] s s := fm_rf _ _ s
  have b1 := bi_28 I
  have b2 := bi_97 I
  have b3 := bi_12 I
  have b4 := bi_89 I
  refine z_aload_n X (x := A 0) rfl (List.Mem.tail _ (List.Mem.head _)) (z_aload_n X (x := q1) rfl (List.Mem.head _) (z_load X (x := i) rfl (List.Mem.tail _ (List.Mem.tail _ (List.Mem.tail _ (List.Mem.tail _ (List.Mem.head _))))) (z_const X rfl (z_add X rfl (z_sld X S hL rfl (show 0 ≤ (i + 1) ∧ (i + 1) < (L : Int) by first | exact sx_in hi (by decide) | omega) ?_)))))
  have sr5 : rng (sc xs (i + 1)) := sc_rng
  refine z_aload_n X (x := q1) rfl (List.Mem.head _) (z_load X (x := i) rfl (List.Mem.tail _ (List.Mem.tail _ (List.Mem.tail _ (List.Mem.tail _ (List.Mem.head _))))) (z_const X rfl (z_add X rfl (z_sld X S hL rfl (show 0 ≤ (i + 2) ∧ (i + 2) < (L : Int) by first | exact sx_in hi (by decide) | omega) ?_))))
  have sr6 : rng (sc xs (i + 2)) := sc_rng
  refine z_aload_n X (x := A 517) rfl (List.Mem.tail _ (List.Mem.tail _ (List.Mem.tail _ (List.Mem.head _)))) (z_callL X (rm := rmN 335) (As := [.ref (A 0), .int (Int32.ofInt (sc xs (i + 1))), .int (Int32.ofInt (sc xs (i + 2))), .ref (A 517)]) (st := []) rfl (by decide) rfl (by rw [E.1, E.2.1, E.2.2.1]; exact lw_pairs G I (by omega) (by omega) (by omega)) ⟨by rw [E.2.2.2]; exact (show 12 + 1 ≤ 2048 by decide), by rw [E.2.2.2]; exact (show 8 + (5 + 11) + 248 ≤ 84000 by decide), by rw [E.2.2.2]; exact (show ce + 2 ≤ 601024 by first | exact rmo_1 hce (by decide) | exact rmo_2 hce (by decide) | omega), by rw [E.2.2.2]; exact (show sl + 12 ≤ 7293034 by first | exact rmo_1 hsl (by decide) | exact rmo_2 hsl (by decide) | omega)⟩ (Nat.le_of_ble_eq_true rfl) (fun vv A s7 hA2 hq => ?_) (fun ee A s7 hA2 hq => ?_))
  rotate_left
  · obtain ⟨Is7, Fs7, e8, hv, hrs7, hps7⟩ := hq; cases hv
  obtain ⟨Is7, Fs7, e8, hv, hrs7, hps7⟩ := hq
  cases hv
  rw [← hA2 0 (by decide)]
  rw [← hA2 179 (by decide)]
  rw [← hA2 517 (by decide)]
  have Gs7 := fm_tq F Fs7 rfl rfl
  have JRLx_s7 : RLx s7 := RLx_fm Fs7 (by decide) jR
  have JREQ_s7 : REQ 39 234 28 s7 := REQ_fm Fs7 (by decide) jREQ
  have ws7_28 : iI s7 28 = iI s 28 := fm_iq Fs7 rfl
  have ws7_97 : iI s7 97 = iI s 97 := fm_iq Fs7 rfl
  have ws7_12 : iI s7 12 = iI s 12 := fm_iq Fs7 rfl
  have ws7_89 : iI s7 89 = iI s 89 := fm_iq Fs7 rfl
  show WS k 1148 [(0, .ref q1), (1, .ref (A 0)), (2, .ref (A 179)), (3, .ref (A 517)), (4, .int (Int32.ofInt i))] [.int (Int32.ofInt e8)] (Wd A dT s7) (ce + 2) (sl + 12)
  refine z_store X (lv' := [(5, .int (Int32.ofInt e8)), (0, .ref q1), (1, .ref (A 0)), (2, .ref (A 179)), (3, .ref (A 517)), (4, .int (Int32.ofInt i))]) rfl (by decide) (fun _ h => h) (z_aload_n X (x := A 179) rfl (List.Mem.tail _ (List.Mem.tail _ (List.Mem.tail _ (List.Mem.head _)))) (z_aload_n X (x := q1) rfl (List.Mem.tail _ (List.Mem.head _)) (z_load X (x := i) rfl (List.Mem.tail _ (List.Mem.tail _ (List.Mem.tail _ (List.Mem.tail _ (List.Mem.tail _ (List.Mem.head _)))))) (z_const X rfl (z_add X rfl (z_sld X S hL rfl (show 0 ≤ (i + 1) ∧ (i + 1) < (L : Int) by first | exact sx_in hi (by decide) | omega) ?_))))))
  have sr9 : rng (sc xs (i + 1)) := sc_rng
  refine z_aload_n X (x := q1) rfl (List.Mem.tail _ (List.Mem.head _)) (z_load X (x := i) rfl (List.Mem.tail _ (List.Mem.tail _ (List.Mem.tail _ (List.Mem.tail _ (List.Mem.tail _ (List.Mem.head _)))))) (z_const X rfl (z_add X rfl (z_sld X S hL rfl (show 0 ≤ (i + 2) ∧ (i + 2) < (L : Int) by first | exact sx_in hi (by decide) | omega) ?_))))
  have sr10 : rng (sc xs (i + 2)) := sc_rng
  refine z_callV X 179 (rm := rmN 267) (As := [.int (Int32.ofInt (sc xs (i + 1))), .int (Int32.ofInt (sc xs (i + 2)))]) (st := []) rfl rfl (by decide) rfl (by rw [E.1, E.2.1, E.2.2.1]; exact k_pairs G Is7 JRLx_s7 (by first | exact ⟨sr9.1, sr9.2⟩ | omega) (by first | exact ⟨sr10.1, sr10.2⟩ | omega)) ⟨by rw [E.2.2.2]; exact (show 62 + 1 ≤ 2048 from oq_03e28196), by rw [E.2.2.2]; exact (show 8 + (3 + 11) + 2686 ≤ 84000 from oq_1f8b0a4c), by rw [E.2.2.2]; exact (show (ce + 2) + 0 ≤ 601024 by omega), by rw [E.2.2.2]; exact (show (sl + 12) + 0 ≤ 7293034 by omega)⟩ (Nat.le_of_ble_eq_true rfl) (fun vv s11 hq => ?_) (fun ee s11 hq => ?_)
  rotate_left
  · obtain ⟨Is11, Fs11, JRLx_s11, e12, hv, hrs11, hps11⟩ := hq; cases hv
  obtain ⟨Is11, Fs11, JRLx_s11, e12, hv, hrs11, hps11⟩ := hq
  cases hv
  have Gs11 := fm_tq Gs7 Fs11 rfl rfl
  have JRLx_s11 : RLx s11 := RLx_fm Fs11 (by decide) JRLx_s7
  have JREQ_s11 : REQ 39 234 28 s11 := REQ_fm Fs11 (by decide) JREQ_s7
  have ws11_28 : iI s11 28 = iI s7 28 := fm_iq Fs11 rfl
  have ws11_97 : iI s11 97 = iI s7 97 := fm_iq Fs11 rfl
  have ws11_12 : iI s11 12 = iI s7 12 := fm_iq Fs11 rfl
  have b13 := bi_89 Is11
  have wos11 : iO s11 = iO s7 := fm_o Fs11 (by decide)
  replace hps11 := hps11 (by clear hps11; omega)
  show WS k 1166 [(5, .int (Int32.ofInt e8)), (0, .ref q1), (1, .ref (A 0)), (2, .ref (A 179)), (3, .ref (A 517)), (4, .int (Int32.ofInt i))] [.int (Int32.ofInt e12)] (Wd A dT s11) (ce + 2) (sl + 12)
  refine z_store X (lv' := [(6, .int (Int32.ofInt e12)), (5, .int (Int32.ofInt e8)), (0, .ref q1), (1, .ref (A 0)), (2, .ref (A 179)), (3, .ref (A 517)), (4, .int (Int32.ofInt i))]) rfl (by decide) (fun _ h => h) (z_goto X (t := 1866) rfl rfl (w_widen (ce' := ce + 29) (sl' := sl + 222) (by first | exact Nat.le_add_right _ _ | exact Nat.add_le_add_left (by decide) _ | omega) (by first | exact Nat.le_add_right _ _ | exact Nat.add_le_add_left (by decide) _ | omega) ?_))
  exact WS_lv (lv := [(0, .ref q1), (1, .ref (A 0)), (2, .ref (A 179)), (3, .ref (A 517)), (4, .int (Int32.ofInt i))]) (List.forall_mem_cons.mpr ⟨(List.Mem.tail _ (List.Mem.tail _ (List.Mem.head _))), (List.forall_mem_cons.mpr ⟨(List.Mem.tail _ (List.Mem.tail _ (List.Mem.tail _ (List.Mem.head _)))), (List.forall_mem_cons.mpr ⟨(List.Mem.tail _ (List.Mem.tail _ (List.Mem.tail _ (List.Mem.tail _ (List.Mem.head _))))), (List.forall_mem_cons.mpr ⟨(List.Mem.tail _ (List.Mem.tail _ (List.Mem.tail _ (List.Mem.tail _ (List.Mem.tail _ (List.Mem.head _)))))), (List.forall_mem_cons.mpr ⟨(List.Mem.tail _ (List.Mem.tail _ (List.Mem.tail _ (List.Mem.tail _ (List.Mem.tail _ (List.Mem.tail _ (List.Mem.head _))))))), (fun q h => absurd h List.not_mem_nil)⟩)⟩)⟩)⟩)⟩) (hk A _ Is11 JRLx_s11 JREQ_s11 (by first | exact oq_e8f78630 b13.1 hps11 ws7_89 b4.1 p1 | omega) (by first | exact oq_d7ce4408 ws11_12 ws7_12 p2 | omega) (by first | exact oq_5bcdc35f ws11_97 ws11_28 ws7_97 ws7_28 p3 | omega))
theorem lc_27 (G : GX l s0 D tys a0 dT) (GR : RS0 s0) (SF : SF0 s0) (GT : TXs0 s0) {k : kx_T} (X : AX k 350 dT) (E : kL k = l ∧ kS0 k = s0 ∧ kD k = D ∧ kR k = room_1) {q1 L : Nat} {xs : Nat → Int32} (S : SX k q1 L xs) (hL : L ≤ 3072) (I : Bd s) (jR : RLx s) (jREQ : REQ 39 234 28 s) (p1 : iI s 89 = 1) (p2 : iI s 12 ≤ 8) (p3 : iI s 28 = iI s 97) {i : Int} (hi : 0 ≤ i ∧ i + 6 ≤ (L : Int)) {ce sl : Nat} (hce : ce + 29 ≤ 601024) (hsl : sl + 222 ≤ 7293034) (hk : ∀ (A : Nat → Nat) (t : PS), Bd t → RLx t → REQ 39 234 28 t → iI t 89 = 1 → iI t 12 ≤ 8 → iI t 28 = iI t 97 → WS k 1866 [(0, .ref q1), (1, .ref (A 0)), (2, .ref (A 179)), (3, .ref (A 517)), (4, .int (Int32.ofInt i))] [] (Wd A dT t) (ce + 29) (sl + 222)) : WS k 1171 [(0, .ref q1), (1, .ref (A 0)), (2, .ref (A 179)), (3, .ref (A 517)), (4, .int (Int32.ofInt i))] [] (Wd A dT s) ce sl := by
  have F : Fm [33, 73, 96] [1460] s s := fm_rf _ _ s
  have b1 := bi_28 I
  have b2 := bi_97 I
  have b3 := bi_12 I
  have b4 := bi_89 I
  refine z_aload_n X (x := A 0) rfl (List.Mem.tail _ (List.Mem.head _)) (z_aload_n X (x := q1) rfl (List.Mem.head _) (z_load X (x := i) rfl (List.Mem.tail _ (List.Mem.tail _ (List.Mem.tail _ (List.Mem.tail _ (List.Mem.head _))))) (z_const X rfl (z_add X rfl (z_sld X S hL rfl (show 0 ≤ (i + 1) ∧ (i + 1) < (L : Int) by first | exact sx_in hi (by decide) | omega) ?_)))))
  have sr5 : rng (sc xs (i + 1)) := sc_rng
  refine z_aload_n X (x := A 517) rfl (List.Mem.tail _ (List.Mem.tail _ (List.Mem.tail _ (List.Mem.head _)))) (z_callL X (rm := rmN 336) (As := [.ref (A 0), .int (Int32.ofInt (sc xs (i + 1))), .ref (A 517)]) (st := []) rfl (by decide) rfl (by rw [E.1, E.2.1, E.2.2.1]; exact lw_busy G I (by omega)) ⟨by rw [E.2.2.2]; exact (show 8 + 1 ≤ 2048 by decide), by rw [E.2.2.2]; exact (show 8 + (4 + 11) + 145 ≤ 84000 by decide), by rw [E.2.2.2]; exact (show ce + 1 ≤ 601024 by first | exact rmo_1 hce (by decide) | exact rmo_2 hce (by decide) | omega), by rw [E.2.2.2]; exact (show sl + 6 ≤ 7293034 by first | exact rmo_1 hsl (by decide) | exact rmo_2 hsl (by decide) | omega)⟩ (Nat.le_of_ble_eq_true rfl) (fun vv A s6 hA2 hq => ?_) (fun ee A s6 hA2 hq => ?_))
  rotate_left
  · obtain ⟨Is6, Fs6, e7, hv, hrs6, hps6⟩ := hq; cases hv
  obtain ⟨Is6, Fs6, e7, hv, hrs6, hps6⟩ := hq
  cases hv
  rw [← hA2 0 (by decide)]
  rw [← hA2 179 (by decide)]
  rw [← hA2 517 (by decide)]
  have Gs6 := fm_tq F Fs6 rfl rfl
  have JRLx_s6 : RLx s6 := RLx_fm Fs6 (by decide) jR
  have JREQ_s6 : REQ 39 234 28 s6 := REQ_fm Fs6 (by decide) jREQ
  have ws6_28 : iI s6 28 = iI s 28 := fm_iq Fs6 rfl
  have ws6_97 : iI s6 97 = iI s 97 := fm_iq Fs6 rfl
  have ws6_12 : iI s6 12 = iI s 12 := fm_iq Fs6 rfl
  have ws6_89 : iI s6 89 = iI s 89 := fm_iq Fs6 rfl
  show WS k 1182 [(0, .ref q1), (1, .ref (A 0)), (2, .ref (A 179)), (3, .ref (A 517)), (4, .int (Int32.ofInt i))] [.int (Int32.ofInt e7)] (Wd A dT s6) (ce + 1) (sl + 6)
  refine z_store X (lv' := [(5, .int (Int32.ofInt e7)), (0, .ref q1), (1, .ref (A 0)), (2, .ref (A 179)), (3, .ref (A 517)), (4, .int (Int32.ofInt i))]) rfl (by decide) (fun _ h => h) (z_aload_n X (x := A 179) rfl (List.Mem.tail _ (List.Mem.tail _ (List.Mem.tail _ (List.Mem.head _)))) (z_aload_n X (x := q1) rfl (List.Mem.tail _ (List.Mem.head _)) (z_load X (x := i) rfl (List.Mem.tail _ (List.Mem.tail _ (List.Mem.tail _ (List.Mem.tail _ (List.Mem.tail _ (List.Mem.head _)))))) (z_const X rfl (z_add X rfl (z_sld X S hL rfl (show 0 ≤ (i + 1) ∧ (i + 1) < (L : Int) by first | exact sx_in hi (by decide) | omega) ?_))))))
  have sr8 : rng (sc xs (i + 1)) := sc_rng
  refine z_callV X 179 (rm := rmN 268) (As := [.int (Int32.ofInt (sc xs (i + 1)))]) (st := []) rfl rfl (by decide) rfl (by rw [E.1, E.2.1, E.2.2.1]; exact k_busy G Is6 (by first | exact ⟨sr8.1, sr8.2⟩ | omega)) ⟨by rw [E.2.2.2]; exact (show 7 + 1 ≤ 2048 from oq_4e6106eb), by rw [E.2.2.2]; exact (show 8 + (3 + 11) + 122 ≤ 84000 from oq_38d194b9), by rw [E.2.2.2]; exact (show (ce + 1) + 0 ≤ 601024 by omega), by rw [E.2.2.2]; exact (show (sl + 6) + 0 ≤ 7293034 by omega)⟩ (Nat.le_of_ble_eq_true rfl) (fun vv s9 hq => ?_) (fun ee s9 hq => ?_)
  rotate_left
  · obtain ⟨Is9, Fs9, e10, hv, hrs9, hps9⟩ := hq; cases hv
  obtain ⟨Is9, Fs9, e10, hv, hrs9, hps9⟩ := hq
  cases hv
  have Gs9 := fm_tq Gs6 Fs9 rfl rfl
  have JRLx_s9 : RLx s9 := RLx_fm Fs9 (by decide) JRLx_s6
  have JREQ_s9 : REQ 39 234 28 s9 := REQ_fm Fs9 (by decide) JREQ_s6
  have ws9_28 : iI s9 28 = iI s6 28 := fm_iq Fs9 rfl
  have ws9_97 : iI s9 97 = iI s6 97 := fm_iq Fs9 rfl
  have ws9_12 : iI s9 12 = iI s6 12 := fm_iq Fs9 rfl
  have ws9_89 : iI s9 89 = iI s6 89 := fm_iq Fs9 rfl
  have wos9 : iO s9 = iO s6 := fm_o Fs9 (by decide)
  show WS k 1194 [(5, .int (Int32.ofInt e7)), (0, .ref q1), (1, .ref (A 0)), (2, .ref (A 179)), (3, .ref (A 517)), (4, .int (Int32.ofInt i))] [.int (Int32.ofInt e10)] (Wd A dT s9) (ce + 1) (sl + 6)
  refine z_store X (lv' := [(6, .int (Int32.ofInt e10)), (5, .int (Int32.ofInt e7)), (0, .ref q1), (1, .ref (A 0)), (2, .ref (A 179)), (3, .ref (A 517)), (4, .int (Int32.ofInt i))]) rfl (by decide) (fun _ h => h) (z_goto X (t := 1866) rfl rfl (w_widen (ce' := ce + 29) (sl' := sl + 222) (by first | exact Nat.le_add_right _ _ | exact Nat.add_le_add_left (by decide) _ | omega) (by first | exact Nat.le_add_right _ _ | exact Nat.add_le_add_left (by decide) _ | omega) ?_))
  exact WS_lv (lv := [(0, .ref q1), (1, .ref (A 0)), (2, .ref (A 179)), (3, .ref (A 517)), (4, .int (Int32.ofInt i))]) (List.forall_mem_cons.mpr ⟨(List.Mem.tail _ (List.Mem.tail _ (List.Mem.head _))), (List.forall_mem_cons.mpr ⟨(List.Mem.tail _ (List.Mem.tail _ (List.Mem.tail _ (List.Mem.head _)))), (List.forall_mem_cons.mpr ⟨(List.Mem.tail _ (List.Mem.tail _ (List.Mem.tail _ (List.Mem.tail _ (List.Mem.head _))))), (List.forall_mem_cons.mpr ⟨(List.Mem.tail _ (List.Mem.tail _ (List.Mem.tail _ (List.Mem.tail _ (List.Mem.tail _ (List.Mem.head _)))))), (List.forall_mem_cons.mpr ⟨(List.Mem.tail _ (List.Mem.tail _ (List.Mem.tail _ (List.Mem.tail _ (List.Mem.tail _ (List.Mem.tail _ (List.Mem.head _))))))), (fun q h => absurd h List.not_mem_nil)⟩)⟩)⟩)⟩)⟩) (hk A _ Is9 JRLx_s9 JREQ_s9 (by first | exact oq_f34933ba ws9_89 ws6_89 p1 b4.1 | omega) (by first | exact oq_d7ce4408 ws9_12 ws6_12 p2 | omega) (by first | exact oq_5bcdc35f ws9_97 ws9_28 ws6_97 ws6_28 p3 | omega))
theorem lc_28 (G : GX l s0 D tys a0 dT) (GR : RS0 s0) (SF : SF0 s0) (GT : TXs0 s0) {k : kx_T} (X : AX k 350 dT) (E : kL k = l ∧ kS0 k = s0 ∧ kD k = D ∧ kR k = room_1) {q1 L : Nat} {xs : Nat → Int32} (S : SX k q1 L xs) (hL : L ≤ 3072) (I : Bd s) (jR : RLx s) (jREQ : REQ 39 234 28 s) (p1 : iI s 89 = 1) (p2 : iI s 12 ≤ 8) (p3 : iI s 28 = iI s 97) {i : Int} (hi : 0 ≤ i ∧ i + 6 ≤ (L : Int)) {ce sl : Nat} (hce : ce + 29 ≤ 601024) (hsl : sl + 222 ≤ 7293034) (hk : ∀ (A : Nat → Nat) (t : PS), Bd t → RLx t → REQ 39 234 28 t → iI t 89 = 1 → iI t 12 ≤ 8 → iI t 28 = iI t 97 → WS k 1866 [(0, .ref q1), (1, .ref (A 0)), (2, .ref (A 179)), (3, .ref (A 517)), (4, .int (Int32.ofInt i))] [] (Wd A dT t) (ce + 29) (sl + 222)) : WS k 1199 [(0, .ref q1), (1, .ref (A 0)), (2, .ref (A 179)), (3, .ref (A 517)), (4, .int (Int32.ofInt i))] [] (Wd A dT s) ce sl := by
  have F : Fm [22, 23, 24, 34, 35, 73, 77, 75, 78, 79, 80, 81, 89] [33, 26, 27, 28, 29, 30, 31, 32, 20, 48, 47, 49, 50, 51, 1460, 161, 230, 202, 204, 205, 206, 207, 208, 209, 210, 211, 212, 213, 214, 215, 216, 217, 218, 219, 220, 221, 222, 223, 224, 225, 226, 227, 203, 395, 396, 245, 246, 247, 248, 249, 250, 251, 252, 253, 254, 255, 256, 257, 258, 259, 260, 261, 262, 263, 264, 265, 266, 267, 268, 269, 270, 271, 272, 273, 274, 275, 276, 277, 278, 279, 280, 281, 282, 283, 284, 285, 286, 287, 288, 289, 290, 291, 292, 293, 294, 295, 296, 297, 298, 299, 300, 301, 302, 303, 304, 305, 306, 307, 308, 309, 310, 311, 312, 313, 314, 315, 316, 317, 318, 319, 320, 321, 322, 323, 324, 325, 326, 327, 328, 329, 330, 331, 332, 333, 334, 335, 336, 337, 338, 339, 340, 341, 342, 343, 344, 345, 346, 347, 348, 349, 350, 351, 352, 353, 354, 355, 356, 357, 358, 359, 360, 361, 362, 363, 364, 365, 366, 367, 368, 369, 370, 371, 372, 373, 374, 375, 376, 377, 378, 379, 380, 381, 382, 383, 384, 385, 386, 387, 388, 389, 390, 391, 392, 393, 394] s s := fm_rf _ _ s
  have b1 := bi_28 I
  have b2 := bi_97 I
  have b3 := bi_12 I
  have b4 := bi_89 I
  refine z_aload_n X (x := A 0) rfl (List.Mem.tail _ (List.Mem.head _)) (z_aload_n X (x := q1) rfl (List.Mem.head _) (z_load X (x := i) rfl (List.Mem.tail _ (List.Mem.tail _ (List.Mem.tail _ (List.Mem.tail _ (List.Mem.head _))))) (z_const X rfl (z_add X rfl (z_sld X S hL rfl (show 0 ≤ (i + 1) ∧ (i + 1) < (L : Int) by first | exact sx_in hi (by decide) | omega) ?_)))))
  have sr5 : rng (sc xs (i + 1)) := sc_rng
  refine z_aload_n X (x := q1) rfl (List.Mem.head _) (z_load X (x := i) rfl (List.Mem.tail _ (List.Mem.tail _ (List.Mem.tail _ (List.Mem.tail _ (List.Mem.head _))))) (z_const X rfl (z_add X rfl (z_sld X S hL rfl (show 0 ≤ (i + 2) ∧ (i + 2) < (L : Int) by first | exact sx_in hi (by decide) | omega) ?_))))
  have sr6 : rng (sc xs (i + 2)) := sc_rng
  refine z_aload_n X (x := A 517) rfl (List.Mem.tail _ (List.Mem.tail _ (List.Mem.tail _ (List.Mem.head _)))) (z_callL X (rm := rmN 337) (As := [.ref (A 0), .int (Int32.ofInt (sc xs (i + 1))), .int (Int32.ofInt (sc xs (i + 2))), .ref (A 517)]) (st := []) rfl (by decide) rfl (by rw [E.1, E.2.1, E.2.2.1]; exact lw_plan G I (by omega) (by omega) (by omega)) ⟨by rw [E.2.2.2]; exact (show 13 + 1 ≤ 2048 by decide), by rw [E.2.2.2]; exact (show 8 + (5 + 11) + 273 ≤ 84000 by decide), by rw [E.2.2.2]; exact (show ce + 2 ≤ 601024 by first | exact rmo_1 hce (by decide) | exact rmo_2 hce (by decide) | omega), by rw [E.2.2.2]; exact (show sl + 12 ≤ 7293034 by first | exact rmo_1 hsl (by decide) | exact rmo_2 hsl (by decide) | omega)⟩ (Nat.le_of_ble_eq_true rfl) (fun vv A s7 hA2 hq => ?_) (fun ee A s7 hA2 hq => ?_))
  rotate_left
  · obtain ⟨Is7, Fs7, e8, hv, hrs7, hps7⟩ := hq; cases hv
  obtain ⟨Is7, Fs7, e8, hv, hrs7, hps7⟩ := hq
  cases hv
  rw [← hA2 0 (by decide)]
  rw [← hA2 179 (by decide)]
  rw [← hA2 517 (by decide)]
  have Gs7 := fm_tq F Fs7 rfl rfl
  have JRLx_s7 : RLx s7 := RLx_fm Fs7 (by decide) jR
  have JREQ_s7 : REQ 39 234 28 s7 := REQ_fm Fs7 (by decide) jREQ
  have ws7_28 : iI s7 28 = iI s 28 := fm_iq Fs7 rfl
  have ws7_97 : iI s7 97 = iI s 97 := fm_iq Fs7 rfl
  have ws7_12 : iI s7 12 = iI s 12 := fm_iq Fs7 rfl
  have ws7_89 : iI s7 89 = iI s 89 := fm_iq Fs7 rfl
  show WS k 1216 [(0, .ref q1), (1, .ref (A 0)), (2, .ref (A 179)), (3, .ref (A 517)), (4, .int (Int32.ofInt i))] [.int (Int32.ofInt e8)] (Wd A dT s7) (ce + 2) (sl + 12)
  refine z_store X (lv' := [(5, .int (Int32.ofInt e8)), (0, .ref q1), (1, .ref (A 0)), (2, .ref (A 179)), (3, .ref (A 517)), (4, .int (Int32.ofInt i))]) rfl (by decide) (fun _ h => h) (z_aload_n X (x := A 179) rfl (List.Mem.tail _ (List.Mem.tail _ (List.Mem.tail _ (List.Mem.head _)))) (z_aload_n X (x := q1) rfl (List.Mem.tail _ (List.Mem.head _)) (z_load X (x := i) rfl (List.Mem.tail _ (List.Mem.tail _ (List.Mem.tail _ (List.Mem.tail _ (List.Mem.tail _ (List.Mem.head _)))))) (z_const X rfl (z_add X rfl (z_sld X S hL rfl (show 0 ≤ (i + 1) ∧ (i + 1) < (L : Int) by first | exact sx_in hi (by decide) | omega) ?_))))))
  have sr9 : rng (sc xs (i + 1)) := sc_rng
  refine z_aload_n X (x := q1) rfl (List.Mem.tail _ (List.Mem.head _)) (z_load X (x := i) rfl (List.Mem.tail _ (List.Mem.tail _ (List.Mem.tail _ (List.Mem.tail _ (List.Mem.tail _ (List.Mem.head _)))))) (z_const X rfl (z_add X rfl (z_sld X S hL rfl (show 0 ≤ (i + 2) ∧ (i + 2) < (L : Int) by first | exact sx_in hi (by decide) | omega) ?_))))
  have sr10 : rng (sc xs (i + 2)) := sc_rng
  refine z_callV X 179 (rm := rmN 272) (As := [.int (Int32.ofInt (sc xs (i + 1))), .int (Int32.ofInt (sc xs (i + 2)))]) (st := []) rfl rfl (by decide) rfl (by rw [E.1, E.2.1, E.2.2.1]; exact k_plan G Is7 JRLx_s7 (by first | exact ⟨sr9.1, sr9.2⟩ | omega) (by first | exact ⟨sr10.1, sr10.2⟩ | omega) (by first | exact oq_b44a1c7f ws7_89 p1 b4.1 | omega)) ⟨by rw [E.2.2.2]; exact (show 64 + 1 ≤ 2048 from oq_5cbe2cb6), by rw [E.2.2.2]; exact (show 8 + (6 + 11) + 2742 ≤ 84000 from oq_276d7037), by rw [E.2.2.2]; exact (show (ce + 2) + 0 ≤ 601024 by omega), by rw [E.2.2.2]; exact (show (sl + 12) + 0 ≤ 7293034 by omega)⟩ (Nat.le_of_ble_eq_true rfl) (fun vv s11 hq => ?_) (fun ee s11 hq => ?_)
  rotate_left
  · obtain ⟨Is11, Fs11, JRLx_s11, e12, hv, hrs11, hps11⟩ := hq; cases hv
  obtain ⟨Is11, Fs11, JRLx_s11, e12, hv, hrs11, hps11⟩ := hq
  cases hv
  have Gs11 := fm_ts Gs7 Fs11 (by decide) (by decide +kernel)
  have JRLx_s11 : RLx s11 := RLx_fm Fs11 (by decide) JRLx_s7
  have JREQ_s11 : REQ 39 234 28 s11 := REQ_fm Fs11 (by decide) JREQ_s7
  have ws11_28 : iI s11 28 = iI s7 28 := fm_iq Fs11 rfl
  have ws11_97 : iI s11 97 = iI s7 97 := fm_iq Fs11 rfl
  have ws11_12 : iI s11 12 = iI s7 12 := fm_iq Fs11 rfl
  have b13 := bi_89 Is11
  have wos11 : iO s11 = iO s7 := fm_o Fs11 (by decide)
  show WS k 1234 [(5, .int (Int32.ofInt e8)), (0, .ref q1), (1, .ref (A 0)), (2, .ref (A 179)), (3, .ref (A 517)), (4, .int (Int32.ofInt i))] [.int (Int32.ofInt e12)] (Wd A dT s11) (ce + 2) (sl + 12)
  refine z_store X (lv' := [(6, .int (Int32.ofInt e12)), (5, .int (Int32.ofInt e8)), (0, .ref q1), (1, .ref (A 0)), (2, .ref (A 179)), (3, .ref (A 517)), (4, .int (Int32.ofInt i))]) rfl (by decide) (fun _ h => h) (z_goto X (t := 1866) rfl rfl (w_widen (ce' := ce + 29) (sl' := sl + 222) (by first | exact Nat.le_add_right _ _ | exact Nat.add_le_add_left (by decide) _ | omega) (by first | exact Nat.le_add_right _ _ | exact Nat.add_le_add_left (by decide) _ | omega) ?_))
  exact WS_lv (lv := [(0, .ref q1), (1, .ref (A 0)), (2, .ref (A 179)), (3, .ref (A 517)), (4, .int (Int32.ofInt i))]) (List.forall_mem_cons.mpr ⟨(List.Mem.tail _ (List.Mem.tail _ (List.Mem.head _))), (List.forall_mem_cons.mpr ⟨(List.Mem.tail _ (List.Mem.tail _ (List.Mem.tail _ (List.Mem.head _)))), (List.forall_mem_cons.mpr ⟨(List.Mem.tail _ (List.Mem.tail _ (List.Mem.tail _ (List.Mem.tail _ (List.Mem.head _))))), (List.forall_mem_cons.mpr ⟨(List.Mem.tail _ (List.Mem.tail _ (List.Mem.tail _ (List.Mem.tail _ (List.Mem.tail _ (List.Mem.head _)))))), (List.forall_mem_cons.mpr ⟨(List.Mem.tail _ (List.Mem.tail _ (List.Mem.tail _ (List.Mem.tail _ (List.Mem.tail _ (List.Mem.tail _ (List.Mem.head _))))))), (fun q h => absurd h List.not_mem_nil)⟩)⟩)⟩)⟩)⟩) (hk A _ Is11 JRLx_s11 JREQ_s11 (by first | exact hps11 | omega) (by first | exact oq_d7ce4408 ws11_12 ws7_12 p2 | omega) (by first | exact oq_5bcdc35f ws11_97 ws11_28 ws7_97 ws7_28 p3 | omega))
theorem lc_29 (G : GX l s0 D tys a0 dT) (GR : RS0 s0) (SF : SF0 s0) (GT : TXs0 s0) {k : kx_T} (X : AX k 350 dT) (E : kL k = l ∧ kS0 k = s0 ∧ kD k = D ∧ kR k = room_1) {q1 L : Nat} {xs : Nat → Int32} (S : SX k q1 L xs) (hL : L ≤ 3072) (I : Bd s) (jR : RLx s) (jREQ : REQ 39 234 28 s) (p1 : iI s 89 = 1) (p2 : iI s 12 ≤ 8) (p3 : iI s 28 = iI s 97) {i : Int} (hi : 0 ≤ i ∧ i + 6 ≤ (L : Int)) {ce sl : Nat} (hce : ce + 29 ≤ 601024) (hsl : sl + 222 ≤ 7293034) (hk : ∀ (A : Nat → Nat) (t : PS), Bd t → RLx t → REQ 39 234 28 t → iI t 89 = 1 → iI t 12 ≤ 8 → iI t 28 = iI t 97 → WS k 1866 [(0, .ref q1), (1, .ref (A 0)), (2, .ref (A 179)), (3, .ref (A 517)), (4, .int (Int32.ofInt i))] [] (Wd A dT t) (ce + 29) (sl + 222)) : WS k 1239 [(0, .ref q1), (1, .ref (A 0)), (2, .ref (A 179)), (3, .ref (A 517)), (4, .int (Int32.ofInt i))] [] (Wd A dT s) ce sl := by
  have F : Fm [36, 37, 73, 102, 103] [1460] s s := fm_rf _ _ s
  have b1 := bi_28 I
  have b2 := bi_97 I
  have b3 := bi_12 I
  have b4 := bi_89 I
  refine z_aload_n X (x := A 0) rfl (List.Mem.tail _ (List.Mem.head _)) (z_aload_n X (x := q1) rfl (List.Mem.head _) (z_load X (x := i) rfl (List.Mem.tail _ (List.Mem.tail _ (List.Mem.tail _ (List.Mem.tail _ (List.Mem.head _))))) (z_const X rfl (z_add X rfl (z_sld X S hL rfl (show 0 ≤ (i + 1) ∧ (i + 1) < (L : Int) by first | exact sx_in hi (by decide) | omega) ?_)))))
  have sr5 : rng (sc xs (i + 1)) := sc_rng
  refine z_aload_n X (x := q1) rfl (List.Mem.head _) (z_load X (x := i) rfl (List.Mem.tail _ (List.Mem.tail _ (List.Mem.tail _ (List.Mem.tail _ (List.Mem.head _))))) (z_const X rfl (z_add X rfl (z_sld X S hL rfl (show 0 ≤ (i + 2) ∧ (i + 2) < (L : Int) by first | exact sx_in hi (by decide) | omega) ?_))))
  have sr6 : rng (sc xs (i + 2)) := sc_rng
  refine z_aload_n X (x := A 517) rfl (List.Mem.tail _ (List.Mem.tail _ (List.Mem.tail _ (List.Mem.head _)))) (z_callL X (rm := rmN 338) (As := [.ref (A 0), .int (Int32.ofInt (sc xs (i + 1))), .int (Int32.ofInt (sc xs (i + 2))), .ref (A 517)]) (st := []) rfl (by decide) rfl (by rw [E.1, E.2.1, E.2.2.1]; exact lw_hours G I (by omega) (by omega)) ⟨by rw [E.2.2.2]; exact (show 8 + 1 ≤ 2048 by decide), by rw [E.2.2.2]; exact (show 8 + (5 + 11) + 145 ≤ 84000 by decide), by rw [E.2.2.2]; exact (show ce + 2 ≤ 601024 by first | exact rmo_1 hce (by decide) | exact rmo_2 hce (by decide) | omega), by rw [E.2.2.2]; exact (show sl + 12 ≤ 7293034 by first | exact rmo_1 hsl (by decide) | exact rmo_2 hsl (by decide) | omega)⟩ (Nat.le_of_ble_eq_true rfl) (fun vv A s7 hA2 hq => ?_) (fun ee A s7 hA2 hq => ?_))
  rotate_left
  · obtain ⟨Is7, Fs7, e8, hv, hrs7, hps7⟩ := hq; cases hv
  obtain ⟨Is7, Fs7, e8, hv, hrs7, hps7⟩ := hq
  cases hv
  rw [← hA2 0 (by decide)]
  rw [← hA2 179 (by decide)]
  rw [← hA2 517 (by decide)]
  have Gs7 := fm_tq F Fs7 rfl rfl
  have JRLx_s7 : RLx s7 := RLx_fm Fs7 (by decide) jR
  have JREQ_s7 : REQ 39 234 28 s7 := REQ_fm Fs7 (by decide) jREQ
  have ws7_28 : iI s7 28 = iI s 28 := fm_iq Fs7 rfl
  have ws7_97 : iI s7 97 = iI s 97 := fm_iq Fs7 rfl
  have ws7_12 : iI s7 12 = iI s 12 := fm_iq Fs7 rfl
  have ws7_89 : iI s7 89 = iI s 89 := fm_iq Fs7 rfl
  show WS k 1256 [(0, .ref q1), (1, .ref (A 0)), (2, .ref (A 179)), (3, .ref (A 517)), (4, .int (Int32.ofInt i))] [.int (Int32.ofInt e8)] (Wd A dT s7) (ce + 2) (sl + 12)
  refine z_store X (lv' := [(5, .int (Int32.ofInt e8)), (0, .ref q1), (1, .ref (A 0)), (2, .ref (A 179)), (3, .ref (A 517)), (4, .int (Int32.ofInt i))]) rfl (by decide) (fun _ h => h) (z_aload_n X (x := A 179) rfl (List.Mem.tail _ (List.Mem.tail _ (List.Mem.tail _ (List.Mem.head _)))) (z_aload_n X (x := q1) rfl (List.Mem.tail _ (List.Mem.head _)) (z_load X (x := i) rfl (List.Mem.tail _ (List.Mem.tail _ (List.Mem.tail _ (List.Mem.tail _ (List.Mem.tail _ (List.Mem.head _)))))) (z_const X rfl (z_add X rfl (z_sld X S hL rfl (show 0 ≤ (i + 1) ∧ (i + 1) < (L : Int) by first | exact sx_in hi (by decide) | omega) ?_))))))
  have sr9 : rng (sc xs (i + 1)) := sc_rng
  refine z_aload_n X (x := q1) rfl (List.Mem.tail _ (List.Mem.head _)) (z_load X (x := i) rfl (List.Mem.tail _ (List.Mem.tail _ (List.Mem.tail _ (List.Mem.tail _ (List.Mem.tail _ (List.Mem.head _)))))) (z_const X rfl (z_add X rfl (z_sld X S hL rfl (show 0 ≤ (i + 2) ∧ (i + 2) < (L : Int) by first | exact sx_in hi (by decide) | omega) ?_))))
  have sr10 : rng (sc xs (i + 2)) := sc_rng
  refine z_callV X 179 (rm := rmN 273) (As := [.int (Int32.ofInt (sc xs (i + 1))), .int (Int32.ofInt (sc xs (i + 2)))]) (st := []) rfl rfl (by decide) rfl (by rw [E.1, E.2.1, E.2.2.1]; exact k_hours G Is7 (by first | exact ⟨sr9.1, sr9.2⟩ | omega) (by first | exact ⟨sr10.1, sr10.2⟩ | omega)) ⟨by rw [E.2.2.2]; exact (show 7 + 1 ≤ 2048 from oq_4e6106eb), by rw [E.2.2.2]; exact (show 8 + (4 + 11) + 122 ≤ 84000 from oq_ebbf79c1), by rw [E.2.2.2]; exact (show (ce + 2) + 0 ≤ 601024 by omega), by rw [E.2.2.2]; exact (show (sl + 12) + 0 ≤ 7293034 by omega)⟩ (Nat.le_of_ble_eq_true rfl) (fun vv s11 hq => ?_) (fun ee s11 hq => ?_)
  rotate_left
  · obtain ⟨Is11, Fs11, e12, hv, hrs11, hps11⟩ := hq; cases hv
  obtain ⟨Is11, Fs11, e12, hv, hrs11, hps11⟩ := hq
  cases hv
  have Gs11 := fm_tq Gs7 Fs11 rfl rfl
  have JRLx_s11 : RLx s11 := RLx_fm Fs11 (by decide) JRLx_s7
  have JREQ_s11 : REQ 39 234 28 s11 := REQ_fm Fs11 (by decide) JREQ_s7
  have ws11_28 : iI s11 28 = iI s7 28 := fm_iq Fs11 rfl
  have ws11_97 : iI s11 97 = iI s7 97 := fm_iq Fs11 rfl
  have ws11_12 : iI s11 12 = iI s7 12 := fm_iq Fs11 rfl
  have ws11_89 : iI s11 89 = iI s7 89 := fm_iq Fs11 rfl
  have wos11 : iO s11 = iO s7 := fm_o Fs11 (by decide)
  show WS k 1274 [(5, .int (Int32.ofInt e8)), (0, .ref q1), (1, .ref (A 0)), (2, .ref (A 179)), (3, .ref (A 517)), (4, .int (Int32.ofInt i))] [.int (Int32.ofInt e12)] (Wd A dT s11) (ce + 2) (sl + 12)
  refine z_store X (lv' := [(6, .int (Int32.ofInt e12)), (5, .int (Int32.ofInt e8)), (0, .ref q1), (1, .ref (A 0)), (2, .ref (A 179)), (3, .ref (A 517)), (4, .int (Int32.ofInt i))]) rfl (by decide) (fun _ h => h) (z_goto X (t := 1866) rfl rfl (w_widen (ce' := ce + 29) (sl' := sl + 222) (by first | exact Nat.le_add_right _ _ | exact Nat.add_le_add_left (by decide) _ | omega) (by first | exact Nat.le_add_right _ _ | exact Nat.add_le_add_left (by decide) _ | omega) ?_))
  exact WS_lv (lv := [(0, .ref q1), (1, .ref (A 0)), (2, .ref (A 179)), (3, .ref (A 517)), (4, .int (Int32.ofInt i))]) (List.forall_mem_cons.mpr ⟨(List.Mem.tail _ (List.Mem.tail _ (List.Mem.head _))), (List.forall_mem_cons.mpr ⟨(List.Mem.tail _ (List.Mem.tail _ (List.Mem.tail _ (List.Mem.head _)))), (List.forall_mem_cons.mpr ⟨(List.Mem.tail _ (List.Mem.tail _ (List.Mem.tail _ (List.Mem.tail _ (List.Mem.head _))))), (List.forall_mem_cons.mpr ⟨(List.Mem.tail _ (List.Mem.tail _ (List.Mem.tail _ (List.Mem.tail _ (List.Mem.tail _ (List.Mem.head _)))))), (List.forall_mem_cons.mpr ⟨(List.Mem.tail _ (List.Mem.tail _ (List.Mem.tail _ (List.Mem.tail _ (List.Mem.tail _ (List.Mem.tail _ (List.Mem.head _))))))), (fun q h => absurd h List.not_mem_nil)⟩)⟩)⟩)⟩)⟩) (hk A _ Is11 JRLx_s11 JREQ_s11 (by first | exact oq_f34933ba ws11_89 ws7_89 p1 b4.1 | omega) (by first | exact oq_d7ce4408 ws11_12 ws7_12 p2 | omega) (by first | exact oq_5bcdc35f ws11_97 ws11_28 ws7_97 ws7_28 p3 | omega))
theorem lc_30 (G : GX l s0 D tys a0 dT) (GR : RS0 s0) (SF : SF0 s0) (GT : TXs0 s0) {k : kx_T} (X : AX k 350 dT) (E : kL k = l ∧ kS0 k = s0 ∧ kD k = D ∧ kR k = room_1) {q1 L : Nat} {xs : Nat → Int32} (S : SX k q1 L xs) (hL : L ≤ 3072) (I : Bd s) (jR : RLx s) (jREQ : REQ 39 234 28 s) (p1 : iI s 89 = 1) (p2 : iI s 12 ≤ 8) (p3 : iI s 28 = iI s 97) {i : Int} (hi : 0 ≤ i ∧ i + 6 ≤ (L : Int)) {ce sl : Nat} (hce : ce + 29 ≤ 601024) (hsl : sl + 222 ≤ 7293034) (hk : ∀ (A : Nat → Nat) (t : PS), Bd t → RLx t → REQ 39 234 28 t → iI t 89 = 1 → iI t 12 ≤ 8 → iI t 28 = iI t 97 → WS k 1866 [(0, .ref q1), (1, .ref (A 0)), (2, .ref (A 179)), (3, .ref (A 517)), (4, .int (Int32.ofInt i))] [] (Wd A dT t) (ce + 29) (sl + 222)) : WS k 1279 [(0, .ref q1), (1, .ref (A 0)), (2, .ref (A 179)), (3, .ref (A 517)), (4, .int (Int32.ofInt i))] [] (Wd A dT s) ce sl := by
  have F : Fm [73] [52, 1460, 398] s s := fm_rf _ _ s
  have b1 := bi_28 I
  have b2 := bi_97 I
  have b3 := bi_12 I
  have b4 := bi_89 I
  refine z_aload_n X (x := A 0) rfl (List.Mem.tail _ (List.Mem.head _)) (z_aload_n X (x := q1) rfl (List.Mem.head _) (z_load X (x := i) rfl (List.Mem.tail _ (List.Mem.tail _ (List.Mem.tail _ (List.Mem.tail _ (List.Mem.head _))))) (z_const X rfl (z_add X rfl (z_sld X S hL rfl (show 0 ≤ (i + 1) ∧ (i + 1) < (L : Int) by first | exact sx_in hi (by decide) | omega) ?_)))))
  have sr5 : rng (sc xs (i + 1)) := sc_rng
  refine z_aload_n X (x := q1) rfl (List.Mem.head _) (z_load X (x := i) rfl (List.Mem.tail _ (List.Mem.tail _ (List.Mem.tail _ (List.Mem.tail _ (List.Mem.head _))))) (z_const X rfl (z_add X rfl (z_sld X S hL rfl (show 0 ≤ (i + 2) ∧ (i + 2) < (L : Int) by first | exact sx_in hi (by decide) | omega) ?_))))
  have sr6 : rng (sc xs (i + 2)) := sc_rng
  refine z_aload_n X (x := A 517) rfl (List.Mem.tail _ (List.Mem.tail _ (List.Mem.tail _ (List.Mem.head _)))) (z_callL X (rm := rmN 339) (As := [.ref (A 0), .int (Int32.ofInt (sc xs (i + 1))), .int (Int32.ofInt (sc xs (i + 2))), .ref (A 517)]) (st := []) rfl (by decide) rfl (by rw [E.1, E.2.1, E.2.2.1]; exact lw_ill G I (by omega) (by omega)) ⟨by rw [E.2.2.2]; exact (show 8 + 1 ≤ 2048 by decide), by rw [E.2.2.2]; exact (show 8 + (5 + 11) + 146 ≤ 84000 by decide), by rw [E.2.2.2]; exact (show ce + 2 ≤ 601024 by first | exact rmo_1 hce (by decide) | exact rmo_2 hce (by decide) | omega), by rw [E.2.2.2]; exact (show sl + 12 ≤ 7293034 by first | exact rmo_1 hsl (by decide) | exact rmo_2 hsl (by decide) | omega)⟩ (Nat.le_of_ble_eq_true rfl) (fun vv A s7 hA2 hq => ?_) (fun ee A s7 hA2 hq => ?_))
  rotate_left
  · obtain ⟨Is7, Fs7, e8, hv, hrs7, hps7⟩ := hq; cases hv
  obtain ⟨Is7, Fs7, e8, hv, hrs7, hps7⟩ := hq
  cases hv
  rw [← hA2 0 (by decide)]
  rw [← hA2 179 (by decide)]
  rw [← hA2 517 (by decide)]
  have Gs7 := fm_tq F Fs7 rfl rfl
  have JRLx_s7 : RLx s7 := RLx_fm Fs7 (by decide) jR
  have JREQ_s7 : REQ 39 234 28 s7 := REQ_fm Fs7 (by decide) jREQ
  have ws7_28 : iI s7 28 = iI s 28 := fm_iq Fs7 rfl
  have ws7_97 : iI s7 97 = iI s 97 := fm_iq Fs7 rfl
  have ws7_12 : iI s7 12 = iI s 12 := fm_iq Fs7 rfl
  have ws7_89 : iI s7 89 = iI s 89 := fm_iq Fs7 rfl
  show WS k 1296 [(0, .ref q1), (1, .ref (A 0)), (2, .ref (A 179)), (3, .ref (A 517)), (4, .int (Int32.ofInt i))] [.int (Int32.ofInt e8)] (Wd A dT s7) (ce + 2) (sl + 12)
  refine z_store X (lv' := [(5, .int (Int32.ofInt e8)), (0, .ref q1), (1, .ref (A 0)), (2, .ref (A 179)), (3, .ref (A 517)), (4, .int (Int32.ofInt i))]) rfl (by decide) (fun _ h => h) (z_aload_n X (x := A 179) rfl (List.Mem.tail _ (List.Mem.tail _ (List.Mem.tail _ (List.Mem.head _)))) (z_aload_n X (x := q1) rfl (List.Mem.tail _ (List.Mem.head _)) (z_load X (x := i) rfl (List.Mem.tail _ (List.Mem.tail _ (List.Mem.tail _ (List.Mem.tail _ (List.Mem.tail _ (List.Mem.head _)))))) (z_const X rfl (z_add X rfl (z_sld X S hL rfl (show 0 ≤ (i + 1) ∧ (i + 1) < (L : Int) by first | exact sx_in hi (by decide) | omega) ?_))))))
  have sr9 : rng (sc xs (i + 1)) := sc_rng
  refine z_aload_n X (x := q1) rfl (List.Mem.tail _ (List.Mem.head _)) (z_load X (x := i) rfl (List.Mem.tail _ (List.Mem.tail _ (List.Mem.tail _ (List.Mem.tail _ (List.Mem.tail _ (List.Mem.head _)))))) (z_const X rfl (z_add X rfl (z_sld X S hL rfl (show 0 ≤ (i + 2) ∧ (i + 2) < (L : Int) by first | exact sx_in hi (by decide) | omega) ?_))))
  have sr10 : rng (sc xs (i + 2)) := sc_rng
  refine z_callV X 179 (rm := rmN 274) (As := [.int (Int32.ofInt (sc xs (i + 1))), .int (Int32.ofInt (sc xs (i + 2)))]) (st := []) rfl rfl (by decide) rfl (by rw [E.1, E.2.1, E.2.2.1]; exact k_ill G Is7 (by first | exact ⟨sr9.1, sr9.2⟩ | omega) (by first | exact ⟨sr10.1, sr10.2⟩ | omega)) ⟨by rw [E.2.2.2]; exact (show 7 + 1 ≤ 2048 from oq_4e6106eb), by rw [E.2.2.2]; exact (show 8 + (4 + 11) + 122 ≤ 84000 from oq_ebbf79c1), by rw [E.2.2.2]; exact (show (ce + 2) + 0 ≤ 601024 by omega), by rw [E.2.2.2]; exact (show (sl + 12) + 0 ≤ 7293034 by omega)⟩ (Nat.le_of_ble_eq_true rfl) (fun vv s11 hq => ?_) (fun ee s11 hq => ?_)
  rotate_left
  · obtain ⟨Is11, Fs11, e12, hv, hrs11, hps11⟩ := hq; cases hv
  obtain ⟨Is11, Fs11, e12, hv, hrs11, hps11⟩ := hq
  cases hv
  have Gs11 := fm_tq Gs7 Fs11 rfl rfl
  have JRLx_s11 : RLx s11 := RLx_fm Fs11 (by decide) JRLx_s7
  have JREQ_s11 : REQ 39 234 28 s11 := REQ_fm Fs11 (by decide) JREQ_s7
  have ws11_28 : iI s11 28 = iI s7 28 := fm_iq Fs11 rfl
  have ws11_97 : iI s11 97 = iI s7 97 := fm_iq Fs11 rfl
  have ws11_12 : iI s11 12 = iI s7 12 := fm_iq Fs11 rfl
  have ws11_89 : iI s11 89 = iI s7 89 := fm_iq Fs11 rfl
  have wos11 : iO s11 = iO s7 := fm_o Fs11 (by decide)
  show WS k 1314 [(5, .int (Int32.ofInt e8)), (0, .ref q1), (1, .ref (A 0)), (2, .ref (A 179)), (3, .ref (A 517)), (4, .int (Int32.ofInt i))] [.int (Int32.ofInt e12)] (Wd A dT s11) (ce + 2) (sl + 12)
  refine z_store X (lv' := [(6, .int (Int32.ofInt e12)), (5, .int (Int32.ofInt e8)), (0, .ref q1), (1, .ref (A 0)), (2, .ref (A 179)), (3, .ref (A 517)), (4, .int (Int32.ofInt i))]) rfl (by decide) (fun _ h => h) (z_goto X (t := 1866) rfl rfl (w_widen (ce' := ce + 29) (sl' := sl + 222) (by first | exact Nat.le_add_right _ _ | exact Nat.add_le_add_left (by decide) _ | omega) (by first | exact Nat.le_add_right _ _ | exact Nat.add_le_add_left (by decide) _ | omega) ?_))
  exact WS_lv (lv := [(0, .ref q1), (1, .ref (A 0)), (2, .ref (A 179)), (3, .ref (A 517)), (4, .int (Int32.ofInt i))]) (List.forall_mem_cons.mpr ⟨(List.Mem.tail _ (List.Mem.tail _ (List.Mem.head _))), (List.forall_mem_cons.mpr ⟨(List.Mem.tail _ (List.Mem.tail _ (List.Mem.tail _ (List.Mem.head _)))), (List.forall_mem_cons.mpr ⟨(List.Mem.tail _ (List.Mem.tail _ (List.Mem.tail _ (List.Mem.tail _ (List.Mem.head _))))), (List.forall_mem_cons.mpr ⟨(List.Mem.tail _ (List.Mem.tail _ (List.Mem.tail _ (List.Mem.tail _ (List.Mem.tail _ (List.Mem.head _)))))), (List.forall_mem_cons.mpr ⟨(List.Mem.tail _ (List.Mem.tail _ (List.Mem.tail _ (List.Mem.tail _ (List.Mem.tail _ (List.Mem.tail _ (List.Mem.head _))))))), (fun q h => absurd h List.not_mem_nil)⟩)⟩)⟩)⟩)⟩) (hk A _ Is11 JRLx_s11 JREQ_s11 (by first | exact oq_f34933ba ws11_89 ws7_89 p1 b4.1 | omega) (by first | exact oq_d7ce4408 ws11_12 ws7_12 p2 | omega) (by first | exact oq_5bcdc35f ws11_97 ws11_28 ws7_97 ws7_28 p3 | omega))
theorem lc_31 (G : GX l s0 D tys a0 dT) (GR : RS0 s0) (SF : SF0 s0) (GT : TXs0 s0) {k : kx_T} (X : AX k 350 dT) (E : kL k = l ∧ kS0 k = s0 ∧ kD k = D ∧ kR k = room_1) {q1 L : Nat} {xs : Nat → Int32} (S : SX k q1 L xs) (hL : L ≤ 3072) (I : Bd s) (jR : RLx s) (jREQ : REQ 39 234 28 s) (p1 : iI s 89 = 1) (p2 : iI s 12 ≤ 8) (p3 : iI s 28 = iI s 97) {i : Int} (hi : 0 ≤ i ∧ i + 6 ≤ (L : Int)) {ce sl : Nat} (hce : ce + 29 ≤ 601024) (hsl : sl + 222 ≤ 7293034) (hk : ∀ (A : Nat → Nat) (t : PS), Bd t → RLx t → REQ 39 234 28 t → iI t 89 = 1 → iI t 12 ≤ 8 → iI t 28 = iI t 97 → WS k 1866 [(0, .ref q1), (1, .ref (A 0)), (2, .ref (A 179)), (3, .ref (A 517)), (4, .int (Int32.ofInt i))] [] (Wd A dT t) (ce + 29) (sl + 222)) : WS k 1319 [(0, .ref q1), (1, .ref (A 0)), (2, .ref (A 179)), (3, .ref (A 517)), (4, .int (Int32.ofInt i))] [] (Wd A dT s) ce sl := by
  have F : Fm [22, 23, 24, 34, 35, 38, 73, 104, 77, 75, 78, 79, 80, 81, 89] [33, 26, 27, 28, 29, 30, 31, 32, 20, 48, 47, 49, 50, 51, 53, 54, 55, 56, 1460, 161, 230, 202, 204, 205, 206, 207, 208, 209, 210, 211, 212, 213, 214, 215, 216, 217, 218, 219, 220, 221, 222, 223, 224, 225, 226, 227, 203, 395, 396, 397, 245, 246, 247, 248, 249, 250, 251, 252, 253, 254, 255, 256, 257, 258, 259, 260, 261, 262, 263, 264, 265, 266, 267, 268, 269, 270, 271, 272, 273, 274, 275, 276, 277, 278, 279, 280, 281, 282, 283, 284, 285, 286, 287, 288, 289, 290, 291, 292, 293, 294, 295, 296, 297, 298, 299, 300, 301, 302, 303, 304, 305, 306, 307, 308, 309, 310, 311, 312, 313, 314, 315, 316, 317, 318, 319, 320, 321, 322, 323, 324, 325, 326, 327, 328, 329, 330, 331, 332, 333, 334, 335, 336, 337, 338, 339, 340, 341, 342, 343, 344, 345, 346, 347, 348, 349, 350, 351, 352, 353, 354, 355, 356, 357, 358, 359, 360, 361, 362, 363, 364, 365, 366, 367, 368, 369, 370, 371, 372, 373, 374, 375, 376, 377, 378, 379, 380, 381, 382, 383, 384, 385, 386, 387, 388, 389, 390, 391, 392, 393, 394] s s := fm_rf _ _ s
  have b1 := bi_28 I
  have b2 := bi_97 I
  have b3 := bi_12 I
  have b4 := bi_89 I
  refine z_aload_n X (x := A 0) rfl (List.Mem.tail _ (List.Mem.head _)) (z_aload_n X (x := q1) rfl (List.Mem.head _) (z_load X (x := i) rfl (List.Mem.tail _ (List.Mem.tail _ (List.Mem.tail _ (List.Mem.tail _ (List.Mem.head _))))) (z_const X rfl (z_add X rfl (z_sld X S hL rfl (show 0 ≤ (i + 1) ∧ (i + 1) < (L : Int) by first | exact sx_in hi (by decide) | omega) ?_)))))
  have sr5 : rng (sc xs (i + 1)) := sc_rng
  refine z_aload_n X (x := q1) rfl (List.Mem.head _) (z_load X (x := i) rfl (List.Mem.tail _ (List.Mem.tail _ (List.Mem.tail _ (List.Mem.tail _ (List.Mem.head _))))) (z_const X rfl (z_add X rfl (z_sld X S hL rfl (show 0 ≤ (i + 2) ∧ (i + 2) < (L : Int) by first | exact sx_in hi (by decide) | omega) ?_))))
  have sr6 : rng (sc xs (i + 2)) := sc_rng
  refine z_aload_n X (x := q1) rfl (List.Mem.head _) (z_load X (x := i) rfl (List.Mem.tail _ (List.Mem.tail _ (List.Mem.tail _ (List.Mem.tail _ (List.Mem.head _))))) (z_const X rfl (z_add X rfl (z_sld X S hL rfl (show 0 ≤ (i + 3) ∧ (i + 3) < (L : Int) by first | exact sx_in hi (by decide) | omega) ?_))))
  have sr7 : rng (sc xs (i + 3)) := sc_rng
  refine z_aload_n X (x := A 517) rfl (List.Mem.tail _ (List.Mem.tail _ (List.Mem.tail _ (List.Mem.head _)))) (z_callL X (rm := rmN 340) (As := [.ref (A 0), .int (Int32.ofInt (sc xs (i + 1))), .int (Int32.ofInt (sc xs (i + 2))), .int (Int32.ofInt (sc xs (i + 3))), .ref (A 517)]) (st := []) rfl (by decide) rfl (by rw [E.1, E.2.1, E.2.2.1]; exact lw_rota G I (by omega) (by omega) (by omega) (by omega)) ⟨by rw [E.2.2.2]; exact (show 13 + 1 ≤ 2048 by decide), by rw [E.2.2.2]; exact (show 8 + (6 + 11) + 274 ≤ 84000 by decide), by rw [E.2.2.2]; exact (show ce + 3 ≤ 601024 by first | exact rmo_1 hce (by decide) | exact rmo_2 hce (by decide) | omega), by rw [E.2.2.2]; exact (show sl + 18 ≤ 7293034 by first | exact rmo_1 hsl (by decide) | exact rmo_2 hsl (by decide) | omega)⟩ (Nat.le_of_ble_eq_true rfl) (fun vv A s8 hA2 hq => ?_) (fun ee A s8 hA2 hq => ?_))
  rotate_left
  · obtain ⟨Is8, Fs8, e9, hv, hrs8, hps8⟩ := hq; cases hv
  obtain ⟨Is8, Fs8, e9, hv, hrs8, hps8⟩ := hq
  cases hv
  rw [← hA2 0 (by decide)]
  rw [← hA2 179 (by decide)]
  rw [← hA2 517 (by decide)]
  have Gs8 := fm_tq F Fs8 rfl rfl
  have JRLx_s8 : RLx s8 := RLx_fm Fs8 (by decide) jR
  have JREQ_s8 : REQ 39 234 28 s8 := REQ_fm Fs8 (by decide) jREQ
  have ws8_28 : iI s8 28 = iI s 28 := fm_iq Fs8 rfl
  have ws8_97 : iI s8 97 = iI s 97 := fm_iq Fs8 rfl
  have ws8_12 : iI s8 12 = iI s 12 := fm_iq Fs8 rfl
  have ws8_89 : iI s8 89 = iI s 89 := fm_iq Fs8 rfl
  show WS k 1342 [(0, .ref q1), (1, .ref (A 0)), (2, .ref (A 179)), (3, .ref (A 517)), (4, .int (Int32.ofInt i))] [.int (Int32.ofInt e9)] (Wd A dT s8) (ce + 3) (sl + 18)
  refine z_store X (lv' := [(5, .int (Int32.ofInt e9)), (0, .ref q1), (1, .ref (A 0)), (2, .ref (A 179)), (3, .ref (A 517)), (4, .int (Int32.ofInt i))]) rfl (by decide) (fun _ h => h) (z_aload_n X (x := A 179) rfl (List.Mem.tail _ (List.Mem.tail _ (List.Mem.tail _ (List.Mem.head _)))) (z_aload_n X (x := q1) rfl (List.Mem.tail _ (List.Mem.head _)) (z_load X (x := i) rfl (List.Mem.tail _ (List.Mem.tail _ (List.Mem.tail _ (List.Mem.tail _ (List.Mem.tail _ (List.Mem.head _)))))) (z_const X rfl (z_add X rfl (z_sld X S hL rfl (show 0 ≤ (i + 1) ∧ (i + 1) < (L : Int) by first | exact sx_in hi (by decide) | omega) ?_))))))
  have sr10 : rng (sc xs (i + 1)) := sc_rng
  refine z_aload_n X (x := q1) rfl (List.Mem.tail _ (List.Mem.head _)) (z_load X (x := i) rfl (List.Mem.tail _ (List.Mem.tail _ (List.Mem.tail _ (List.Mem.tail _ (List.Mem.tail _ (List.Mem.head _)))))) (z_const X rfl (z_add X rfl (z_sld X S hL rfl (show 0 ≤ (i + 2) ∧ (i + 2) < (L : Int) by first | exact sx_in hi (by decide) | omega) ?_))))
  have sr11 : rng (sc xs (i + 2)) := sc_rng
  refine z_aload_n X (x := q1) rfl (List.Mem.tail _ (List.Mem.head _)) (z_load X (x := i) rfl (List.Mem.tail _ (List.Mem.tail _ (List.Mem.tail _ (List.Mem.tail _ (List.Mem.tail _ (List.Mem.head _)))))) (z_const X rfl (z_add X rfl (z_sld X S hL rfl (show 0 ≤ (i + 3) ∧ (i + 3) < (L : Int) by first | exact sx_in hi (by decide) | omega) ?_))))
  have sr12 : rng (sc xs (i + 3)) := sc_rng
  refine z_callV X 179 (rm := rmN 276) (As := [.int (Int32.ofInt (sc xs (i + 1))), .int (Int32.ofInt (sc xs (i + 2))), .int (Int32.ofInt (sc xs (i + 3)))]) (st := []) rfl rfl (by decide) rfl (by rw [E.1, E.2.1, E.2.2.1]; exact k_rota G Is8 JRLx_s8 (by first | exact ⟨sr10.1, sr10.2⟩ | omega) (by first | exact ⟨sr11.1, sr11.2⟩ | omega) (by first | exact ⟨sr12.1, sr12.2⟩ | omega) (by first | exact oq_b44a1c7f ws8_89 p1 b4.1 | omega)) ⟨by rw [E.2.2.2]; exact (show 64 + 1 ≤ 2048 from oq_5cbe2cb6), by rw [E.2.2.2]; exact (show 8 + (4 + 11) + 2742 ≤ 84000 from oq_31d93303), by rw [E.2.2.2]; exact (show (ce + 3) + 3 ≤ 601024 by omega), by rw [E.2.2.2]; exact (show (sl + 18) + 24 ≤ 7293034 by omega)⟩ (Nat.le_of_ble_eq_true rfl) (fun vv s13 hq => ?_) (fun ee s13 hq => ?_)
  rotate_left
  · obtain ⟨Is13, Fs13, JRLx_s13, e14, hv, hrs13, hps13⟩ := hq; cases hv
  obtain ⟨Is13, Fs13, JRLx_s13, e14, hv, hrs13, hps13⟩ := hq
  cases hv
  have Gs13 := fm_ts Gs8 Fs13 (by decide) (by decide +kernel)
  have JRLx_s13 : RLx s13 := RLx_fm Fs13 (by decide) JRLx_s8
  have JREQ_s13 : REQ 39 234 28 s13 := REQ_fm Fs13 (by decide) JREQ_s8
  have ws13_28 : iI s13 28 = iI s8 28 := fm_iq Fs13 rfl
  have ws13_97 : iI s13 97 = iI s8 97 := fm_iq Fs13 rfl
  have ws13_12 : iI s13 12 = iI s8 12 := fm_iq Fs13 rfl
  have b15 := bi_89 Is13
  have wos13 : iO s13 = iO s8 := fm_o Fs13 (by decide)
  show WS k 1366 [(5, .int (Int32.ofInt e9)), (0, .ref q1), (1, .ref (A 0)), (2, .ref (A 179)), (3, .ref (A 517)), (4, .int (Int32.ofInt i))] [.int (Int32.ofInt e14)] (Wd A dT s13) ((ce + 3) + 3) ((sl + 18) + 24)
  refine z_store X (lv' := [(6, .int (Int32.ofInt e14)), (5, .int (Int32.ofInt e9)), (0, .ref q1), (1, .ref (A 0)), (2, .ref (A 179)), (3, .ref (A 517)), (4, .int (Int32.ofInt i))]) rfl (by decide) (fun _ h => h) (z_goto X (t := 1866) rfl rfl (w_widen (ce' := ce + 29) (sl' := sl + 222) (by first | exact Nat.le_add_right _ _ | exact Nat.add_le_add_left (by decide) _ | omega) (by first | exact Nat.le_add_right _ _ | exact Nat.add_le_add_left (by decide) _ | omega) ?_))
  exact WS_lv (lv := [(0, .ref q1), (1, .ref (A 0)), (2, .ref (A 179)), (3, .ref (A 517)), (4, .int (Int32.ofInt i))]) (List.forall_mem_cons.mpr ⟨(List.Mem.tail _ (List.Mem.tail _ (List.Mem.head _))), (List.forall_mem_cons.mpr ⟨(List.Mem.tail _ (List.Mem.tail _ (List.Mem.tail _ (List.Mem.head _)))), (List.forall_mem_cons.mpr ⟨(List.Mem.tail _ (List.Mem.tail _ (List.Mem.tail _ (List.Mem.tail _ (List.Mem.head _))))), (List.forall_mem_cons.mpr ⟨(List.Mem.tail _ (List.Mem.tail _ (List.Mem.tail _ (List.Mem.tail _ (List.Mem.tail _ (List.Mem.head _)))))), (List.forall_mem_cons.mpr ⟨(List.Mem.tail _ (List.Mem.tail _ (List.Mem.tail _ (List.Mem.tail _ (List.Mem.tail _ (List.Mem.tail _ (List.Mem.head _))))))), (fun q h => absurd h List.not_mem_nil)⟩)⟩)⟩)⟩)⟩) (hk A _ Is13 JRLx_s13 JREQ_s13 (by first | exact hps13 | omega) (by first | exact oq_d7ce4408 ws13_12 ws8_12 p2 | omega) (by first | exact oq_5bcdc35f ws13_97 ws13_28 ws8_97 ws8_28 p3 | omega))
theorem lc_32 (G : GX l s0 D tys a0 dT) (GR : RS0 s0) (SF : SF0 s0) (GT : TXs0 s0) {k : kx_T} (X : AX k 350 dT) (E : kL k = l ∧ kS0 k = s0 ∧ kD k = D ∧ kR k = room_1) {q1 L : Nat} {xs : Nat → Int32} (S : SX k q1 L xs) (hL : L ≤ 3072) (I : Bd s) (jR : RLx s) (jREQ : REQ 39 234 28 s) (p1 : iI s 89 = 1) (p2 : iI s 12 ≤ 8) (p3 : iI s 28 = iI s 97) {i : Int} (hi : 0 ≤ i ∧ i + 6 ≤ (L : Int)) {ce sl : Nat} (hce : ce + 29 ≤ 601024) (hsl : sl + 222 ≤ 7293034) (hk : ∀ (A : Nat → Nat) (t : PS), Bd t → RLx t → REQ 39 234 28 t → iI t 89 = 1 → iI t 12 ≤ 8 → iI t 28 = iI t 97 → WS k 1866 [(0, .ref q1), (1, .ref (A 0)), (2, .ref (A 179)), (3, .ref (A 517)), (4, .int (Int32.ofInt i))] [] (Wd A dT t) (ce + 29) (sl + 222)) : WS k 1371 [(0, .ref q1), (1, .ref (A 0)), (2, .ref (A 179)), (3, .ref (A 517)), (4, .int (Int32.ofInt i))] [] (Wd A dT s) ce sl := by
  have F : Fm [22, 23, 24, 34, 35, 38, 73, 104, 77, 75, 78, 79, 80, 81, 89] [33, 26, 27, 28, 29, 30, 31, 32, 20, 48, 47, 49, 50, 51, 53, 54, 55, 56, 1460, 161, 230, 202, 204, 205, 206, 207, 208, 209, 210, 211, 212, 213, 214, 215, 216, 217, 218, 219, 220, 221, 222, 223, 224, 225, 226, 227, 203, 395, 396, 397, 245, 246, 247, 248, 249, 250, 251, 252, 253, 254, 255, 256, 257, 258, 259, 260, 261, 262, 263, 264, 265, 266, 267, 268, 269, 270, 271, 272, 273, 274, 275, 276, 277, 278, 279, 280, 281, 282, 283, 284, 285, 286, 287, 288, 289, 290, 291, 292, 293, 294, 295, 296, 297, 298, 299, 300, 301, 302, 303, 304, 305, 306, 307, 308, 309, 310, 311, 312, 313, 314, 315, 316, 317, 318, 319, 320, 321, 322, 323, 324, 325, 326, 327, 328, 329, 330, 331, 332, 333, 334, 335, 336, 337, 338, 339, 340, 341, 342, 343, 344, 345, 346, 347, 348, 349, 350, 351, 352, 353, 354, 355, 356, 357, 358, 359, 360, 361, 362, 363, 364, 365, 366, 367, 368, 369, 370, 371, 372, 373, 374, 375, 376, 377, 378, 379, 380, 381, 382, 383, 384, 385, 386, 387, 388, 389, 390, 391, 392, 393, 394] s s := fm_rf _ _ s
  have b1 := bi_28 I
  have b2 := bi_97 I
  have b3 := bi_12 I
  have b4 := bi_89 I
  refine z_aload_n X (x := A 0) rfl (List.Mem.tail _ (List.Mem.head _)) (z_aload_n X (x := q1) rfl (List.Mem.head _) (z_load X (x := i) rfl (List.Mem.tail _ (List.Mem.tail _ (List.Mem.tail _ (List.Mem.tail _ (List.Mem.head _))))) (z_const X rfl (z_add X rfl (z_sld X S hL rfl (show 0 ≤ (i + 1) ∧ (i + 1) < (L : Int) by first | exact sx_in hi (by decide) | omega) ?_)))))
  have sr5 : rng (sc xs (i + 1)) := sc_rng
  refine z_aload_n X (x := q1) rfl (List.Mem.head _) (z_load X (x := i) rfl (List.Mem.tail _ (List.Mem.tail _ (List.Mem.tail _ (List.Mem.tail _ (List.Mem.head _))))) (z_const X rfl (z_add X rfl (z_sld X S hL rfl (show 0 ≤ (i + 2) ∧ (i + 2) < (L : Int) by first | exact sx_in hi (by decide) | omega) ?_))))
  have sr6 : rng (sc xs (i + 2)) := sc_rng
  refine z_aload_n X (x := A 517) rfl (List.Mem.tail _ (List.Mem.tail _ (List.Mem.tail _ (List.Mem.head _)))) (z_callL X (rm := rmN 341) (As := [.ref (A 0), .int (Int32.ofInt (sc xs (i + 1))), .int (Int32.ofInt (sc xs (i + 2))), .ref (A 517)]) (st := []) rfl (by decide) rfl (by rw [E.1, E.2.1, E.2.2.1]; exact lw_lacks G I (by omega) (by omega) (by omega)) ⟨by rw [E.2.2.2]; exact (show 13 + 1 ≤ 2048 by decide), by rw [E.2.2.2]; exact (show 8 + (5 + 11) + 273 ≤ 84000 by decide), by rw [E.2.2.2]; exact (show ce + 2 ≤ 601024 by first | exact rmo_1 hce (by decide) | exact rmo_2 hce (by decide) | omega), by rw [E.2.2.2]; exact (show sl + 12 ≤ 7293034 by first | exact rmo_1 hsl (by decide) | exact rmo_2 hsl (by decide) | omega)⟩ (Nat.le_of_ble_eq_true rfl) (fun vv A s7 hA2 hq => ?_) (fun ee A s7 hA2 hq => ?_))
  rotate_left
  · obtain ⟨Is7, Fs7, e8, hv, hrs7, hps7⟩ := hq; cases hv
  obtain ⟨Is7, Fs7, e8, hv, hrs7, hps7⟩ := hq
  cases hv
  rw [← hA2 0 (by decide)]
  rw [← hA2 179 (by decide)]
  rw [← hA2 517 (by decide)]
  have Gs7 := fm_tq F Fs7 rfl rfl
  have JRLx_s7 : RLx s7 := RLx_fm Fs7 (by decide) jR
  have JREQ_s7 : REQ 39 234 28 s7 := REQ_fm Fs7 (by decide) jREQ
  have ws7_28 : iI s7 28 = iI s 28 := fm_iq Fs7 rfl
  have ws7_97 : iI s7 97 = iI s 97 := fm_iq Fs7 rfl
  have ws7_12 : iI s7 12 = iI s 12 := fm_iq Fs7 rfl
  have ws7_89 : iI s7 89 = iI s 89 := fm_iq Fs7 rfl
  show WS k 1388 [(0, .ref q1), (1, .ref (A 0)), (2, .ref (A 179)), (3, .ref (A 517)), (4, .int (Int32.ofInt i))] [.int (Int32.ofInt e8)] (Wd A dT s7) (ce + 2) (sl + 12)
  refine z_store X (lv' := [(5, .int (Int32.ofInt e8)), (0, .ref q1), (1, .ref (A 0)), (2, .ref (A 179)), (3, .ref (A 517)), (4, .int (Int32.ofInt i))]) rfl (by decide) (fun _ h => h) (z_aload_n X (x := A 179) rfl (List.Mem.tail _ (List.Mem.tail _ (List.Mem.tail _ (List.Mem.head _)))) (z_aload_n X (x := q1) rfl (List.Mem.tail _ (List.Mem.head _)) (z_load X (x := i) rfl (List.Mem.tail _ (List.Mem.tail _ (List.Mem.tail _ (List.Mem.tail _ (List.Mem.tail _ (List.Mem.head _)))))) (z_const X rfl (z_add X rfl (z_sld X S hL rfl (show 0 ≤ (i + 1) ∧ (i + 1) < (L : Int) by first | exact sx_in hi (by decide) | omega) ?_))))))
  have sr9 : rng (sc xs (i + 1)) := sc_rng
  refine z_aload_n X (x := q1) rfl (List.Mem.tail _ (List.Mem.head _)) (z_load X (x := i) rfl (List.Mem.tail _ (List.Mem.tail _ (List.Mem.tail _ (List.Mem.tail _ (List.Mem.tail _ (List.Mem.head _)))))) (z_const X rfl (z_add X rfl (z_sld X S hL rfl (show 0 ≤ (i + 2) ∧ (i + 2) < (L : Int) by first | exact sx_in hi (by decide) | omega) ?_))))
  have sr10 : rng (sc xs (i + 2)) := sc_rng
  refine z_callV X 179 (rm := rmN 277) (As := [.int (Int32.ofInt (sc xs (i + 1))), .int (Int32.ofInt (sc xs (i + 2)))]) (st := []) rfl rfl (by decide) rfl (by rw [E.1, E.2.1, E.2.2.1]; exact k_lacks G Is7 JRLx_s7 (by first | exact ⟨sr9.1, sr9.2⟩ | omega) (by first | exact ⟨sr10.1, sr10.2⟩ | omega) (by first | exact oq_b44a1c7f ws7_89 p1 b4.1 | omega)) ⟨by rw [E.2.2.2]; exact (show 64 + 1 ≤ 2048 from oq_5cbe2cb6), by rw [E.2.2.2]; exact (show 8 + (3 + 11) + 2742 ≤ 84000 from oq_151ba25b), by rw [E.2.2.2]; exact (show (ce + 2) + 3 ≤ 601024 by omega), by rw [E.2.2.2]; exact (show (sl + 12) + 24 ≤ 7293034 by omega)⟩ (Nat.le_of_ble_eq_true rfl) (fun vv s11 hq => ?_) (fun ee s11 hq => ?_)
  rotate_left
  · obtain ⟨Is11, Fs11, JRLx_s11, e12, hv, hrs11, hps11⟩ := hq; cases hv
  obtain ⟨Is11, Fs11, JRLx_s11, e12, hv, hrs11, hps11⟩ := hq
  cases hv
  have Gs11 := fm_ts Gs7 Fs11 (by decide) (by decide +kernel)
  have JRLx_s11 : RLx s11 := RLx_fm Fs11 (by decide) JRLx_s7
  have JREQ_s11 : REQ 39 234 28 s11 := REQ_fm Fs11 (by decide) JREQ_s7
  have ws11_28 : iI s11 28 = iI s7 28 := fm_iq Fs11 rfl
  have ws11_97 : iI s11 97 = iI s7 97 := fm_iq Fs11 rfl
  have ws11_12 : iI s11 12 = iI s7 12 := fm_iq Fs11 rfl
  have b13 := bi_89 Is11
  have wos11 : iO s11 = iO s7 := fm_o Fs11 (by decide)
  show WS k 1406 [(5, .int (Int32.ofInt e8)), (0, .ref q1), (1, .ref (A 0)), (2, .ref (A 179)), (3, .ref (A 517)), (4, .int (Int32.ofInt i))] [.int (Int32.ofInt e12)] (Wd A dT s11) ((ce + 2) + 3) ((sl + 12) + 24)
  refine z_store X (lv' := [(6, .int (Int32.ofInt e12)), (5, .int (Int32.ofInt e8)), (0, .ref q1), (1, .ref (A 0)), (2, .ref (A 179)), (3, .ref (A 517)), (4, .int (Int32.ofInt i))]) rfl (by decide) (fun _ h => h) (z_goto X (t := 1866) rfl rfl (w_widen (ce' := ce + 29) (sl' := sl + 222) (by first | exact Nat.le_add_right _ _ | exact Nat.add_le_add_left (by decide) _ | omega) (by first | exact Nat.le_add_right _ _ | exact Nat.add_le_add_left (by decide) _ | omega) ?_))
  exact WS_lv (lv := [(0, .ref q1), (1, .ref (A 0)), (2, .ref (A 179)), (3, .ref (A 517)), (4, .int (Int32.ofInt i))]) (List.forall_mem_cons.mpr ⟨(List.Mem.tail _ (List.Mem.tail _ (List.Mem.head _))), (List.forall_mem_cons.mpr ⟨(List.Mem.tail _ (List.Mem.tail _ (List.Mem.tail _ (List.Mem.head _)))), (List.forall_mem_cons.mpr ⟨(List.Mem.tail _ (List.Mem.tail _ (List.Mem.tail _ (List.Mem.tail _ (List.Mem.head _))))), (List.forall_mem_cons.mpr ⟨(List.Mem.tail _ (List.Mem.tail _ (List.Mem.tail _ (List.Mem.tail _ (List.Mem.tail _ (List.Mem.head _)))))), (List.forall_mem_cons.mpr ⟨(List.Mem.tail _ (List.Mem.tail _ (List.Mem.tail _ (List.Mem.tail _ (List.Mem.tail _ (List.Mem.tail _ (List.Mem.head _))))))), (fun q h => absurd h List.not_mem_nil)⟩)⟩)⟩)⟩)⟩) (hk A _ Is11 JRLx_s11 JREQ_s11 (by first | exact hps11 | omega) (by first | exact oq_d7ce4408 ws11_12 ws7_12 p2 | omega) (by first | exact oq_5bcdc35f ws11_97 ws11_28 ws7_97 ws7_28 p3 | omega))
theorem lc_33 (G : GX l s0 D tys a0 dT) (GR : RS0 s0) (SF : SF0 s0) (GT : TXs0 s0) {k : kx_T} (X : AX k 350 dT) (E : kL k = l ∧ kS0 k = s0 ∧ kD k = D ∧ kR k = room_1) {q1 L : Nat} {xs : Nat → Int32} (S : SX k q1 L xs) (hL : L ≤ 3072) (I : Bd s) (jR : RLx s) (jREQ : REQ 39 234 28 s) (p1 : iI s 89 = 1) (p2 : iI s 12 ≤ 8) (p3 : iI s 28 = iI s 97) {i : Int} (hi : 0 ≤ i ∧ i + 6 ≤ (L : Int)) {ce sl : Nat} (hce : ce + 29 ≤ 601024) (hsl : sl + 222 ≤ 7293034) (hk : ∀ (A : Nat → Nat) (t : PS), Bd t → RLx t → REQ 39 234 28 t → iI t 89 = 1 → iI t 12 ≤ 8 → iI t 28 = iI t 97 → WS k 1866 [(0, .ref q1), (1, .ref (A 0)), (2, .ref (A 179)), (3, .ref (A 517)), (4, .int (Int32.ofInt i))] [] (Wd A dT t) (ce + 29) (sl + 222)) : WS k 1411 [(0, .ref q1), (1, .ref (A 0)), (2, .ref (A 179)), (3, .ref (A 517)), (4, .int (Int32.ofInt i))] [] (Wd A dT s) ce sl := by
  have F : Fm [22, 23, 24, 34, 35, 38, 73, 104, 77, 75, 78, 79, 80, 81, 89] [33, 26, 27, 28, 29, 30, 31, 32, 20, 48, 47, 49, 50, 51, 53, 54, 55, 56, 1460, 161, 230, 202, 204, 205, 206, 207, 208, 209, 210, 211, 212, 213, 214, 215, 216, 217, 218, 219, 220, 221, 222, 223, 224, 225, 226, 227, 203, 395, 396, 397, 245, 246, 247, 248, 249, 250, 251, 252, 253, 254, 255, 256, 257, 258, 259, 260, 261, 262, 263, 264, 265, 266, 267, 268, 269, 270, 271, 272, 273, 274, 275, 276, 277, 278, 279, 280, 281, 282, 283, 284, 285, 286, 287, 288, 289, 290, 291, 292, 293, 294, 295, 296, 297, 298, 299, 300, 301, 302, 303, 304, 305, 306, 307, 308, 309, 310, 311, 312, 313, 314, 315, 316, 317, 318, 319, 320, 321, 322, 323, 324, 325, 326, 327, 328, 329, 330, 331, 332, 333, 334, 335, 336, 337, 338, 339, 340, 341, 342, 343, 344, 345, 346, 347, 348, 349, 350, 351, 352, 353, 354, 355, 356, 357, 358, 359, 360, 361, 362, 363, 364, 365, 366, 367, 368, 369, 370, 371, 372, 373, 374, 375, 376, 377, 378, 379, 380, 381, 382, 383, 384, 385, 386, 387, 388, 389, 390, 391, 392, 393, 394] s s := fm_rf _ _ s
  have b1 := bi_28 I
  have b2 := bi_97 I
  have b3 := bi_12 I
  have b4 := bi_89 I
  refine z_aload_n X (x := A 0) rfl (List.Mem.tail _ (List.Mem.head _)) (z_aload_n X (x := q1) rfl (List.Mem.head _) (z_load X (x := i) rfl (List.Mem.tail _ (List.Mem.tail _ (List.Mem.tail _ (List.Mem.tail _ (List.Mem.head _))))) (z_const X rfl (z_add X rfl (z_sld X S hL rfl (show 0 ≤ (i + 1) ∧ (i + 1) < (L : Int) by first | exact sx_in hi (by decide) | omega) ?_)))))
  have sr5 : rng (sc xs (i + 1)) := sc_rng
  refine z_aload_n X (x := A 517) rfl (List.Mem.tail _ (List.Mem.tail _ (List.Mem.tail _ (List.Mem.head _)))) (z_callL X (rm := rmN 342) (As := [.ref (A 0), .int (Int32.ofInt (sc xs (i + 1))), .ref (A 517)]) (st := []) rfl (by decide) rfl (by rw [E.1, E.2.1, E.2.2.1]; exact lw_enough G I (by omega) (by omega)) ⟨by rw [E.2.2.2]; exact (show 13 + 1 ≤ 2048 by decide), by rw [E.2.2.2]; exact (show 8 + (4 + 11) + 273 ≤ 84000 by decide), by rw [E.2.2.2]; exact (show ce + 1 ≤ 601024 by first | exact rmo_1 hce (by decide) | exact rmo_2 hce (by decide) | omega), by rw [E.2.2.2]; exact (show sl + 6 ≤ 7293034 by first | exact rmo_1 hsl (by decide) | exact rmo_2 hsl (by decide) | omega)⟩ (Nat.le_of_ble_eq_true rfl) (fun vv A s6 hA2 hq => ?_) (fun ee A s6 hA2 hq => ?_))
  rotate_left
  · obtain ⟨Is6, Fs6, e7, hv, hrs6, hps6⟩ := hq; cases hv
  obtain ⟨Is6, Fs6, e7, hv, hrs6, hps6⟩ := hq
  cases hv
  rw [← hA2 0 (by decide)]
  rw [← hA2 179 (by decide)]
  rw [← hA2 517 (by decide)]
  have Gs6 := fm_tq F Fs6 rfl rfl
  have JRLx_s6 : RLx s6 := RLx_fm Fs6 (by decide) jR
  have JREQ_s6 : REQ 39 234 28 s6 := REQ_fm Fs6 (by decide) jREQ
  have ws6_28 : iI s6 28 = iI s 28 := fm_iq Fs6 rfl
  have ws6_97 : iI s6 97 = iI s 97 := fm_iq Fs6 rfl
  have ws6_12 : iI s6 12 = iI s 12 := fm_iq Fs6 rfl
  have ws6_89 : iI s6 89 = iI s 89 := fm_iq Fs6 rfl
  show WS k 1422 [(0, .ref q1), (1, .ref (A 0)), (2, .ref (A 179)), (3, .ref (A 517)), (4, .int (Int32.ofInt i))] [.int (Int32.ofInt e7)] (Wd A dT s6) (ce + 1) (sl + 6)
  refine z_store X (lv' := [(5, .int (Int32.ofInt e7)), (0, .ref q1), (1, .ref (A 0)), (2, .ref (A 179)), (3, .ref (A 517)), (4, .int (Int32.ofInt i))]) rfl (by decide) (fun _ h => h) (z_aload_n X (x := A 179) rfl (List.Mem.tail _ (List.Mem.tail _ (List.Mem.tail _ (List.Mem.head _)))) (z_aload_n X (x := q1) rfl (List.Mem.tail _ (List.Mem.head _)) (z_load X (x := i) rfl (List.Mem.tail _ (List.Mem.tail _ (List.Mem.tail _ (List.Mem.tail _ (List.Mem.tail _ (List.Mem.head _)))))) (z_const X rfl (z_add X rfl (z_sld X S hL rfl (show 0 ≤ (i + 1) ∧ (i + 1) < (L : Int) by first | exact sx_in hi (by decide) | omega) ?_))))))
  have sr8 : rng (sc xs (i + 1)) := sc_rng
  refine z_callV X 179 (rm := rmN 278) (As := [.int (Int32.ofInt (sc xs (i + 1)))]) (st := []) rfl rfl (by decide) rfl (by rw [E.1, E.2.1, E.2.2.1]; exact k_enough G Is6 JRLx_s6 (by first | exact ⟨sr8.1, sr8.2⟩ | omega) (by first | exact oq_b44a1c7f ws6_89 p1 b4.1 | omega)) ⟨by rw [E.2.2.2]; exact (show 64 + 1 ≤ 2048 from oq_5cbe2cb6), by rw [E.2.2.2]; exact (show 8 + (3 + 11) + 2742 ≤ 84000 from oq_151ba25b), by rw [E.2.2.2]; exact (show (ce + 1) + 24 ≤ 601024 by omega), by rw [E.2.2.2]; exact (show (sl + 6) + 192 ≤ 7293034 by omega)⟩ (Nat.le_of_ble_eq_true rfl) (fun vv s9 hq => ?_) (fun ee s9 hq => ?_)
  rotate_left
  · obtain ⟨Is9, Fs9, JRLx_s9, e10, hv, hrs9, hps9⟩ := hq; cases hv
  obtain ⟨Is9, Fs9, JRLx_s9, e10, hv, hrs9, hps9⟩ := hq
  cases hv
  have Gs9 := fm_ts Gs6 Fs9 (by decide) (by decide +kernel)
  have JRLx_s9 : RLx s9 := RLx_fm Fs9 (by decide) JRLx_s6
  have JREQ_s9 : REQ 39 234 28 s9 := REQ_fm Fs9 (by decide) JREQ_s6
  have ws9_28 : iI s9 28 = iI s6 28 := fm_iq Fs9 rfl
  have ws9_97 : iI s9 97 = iI s6 97 := fm_iq Fs9 rfl
  have ws9_12 : iI s9 12 = iI s6 12 := fm_iq Fs9 rfl
  have b11 := bi_89 Is9
  have wos9 : iO s9 = iO s6 := fm_o Fs9 (by decide)
  show WS k 1434 [(5, .int (Int32.ofInt e7)), (0, .ref q1), (1, .ref (A 0)), (2, .ref (A 179)), (3, .ref (A 517)), (4, .int (Int32.ofInt i))] [.int (Int32.ofInt e10)] (Wd A dT s9) ((ce + 1) + 24) ((sl + 6) + 192)
  refine z_store X (lv' := [(6, .int (Int32.ofInt e10)), (5, .int (Int32.ofInt e7)), (0, .ref q1), (1, .ref (A 0)), (2, .ref (A 179)), (3, .ref (A 517)), (4, .int (Int32.ofInt i))]) rfl (by decide) (fun _ h => h) (z_goto X (t := 1866) rfl rfl (w_widen (ce' := ce + 29) (sl' := sl + 222) (by first | exact Nat.le_add_right _ _ | exact Nat.add_le_add_left (by decide) _ | omega) (by first | exact Nat.le_add_right _ _ | exact Nat.add_le_add_left (by decide) _ | omega) ?_))
  exact WS_lv (lv := [(0, .ref q1), (1, .ref (A 0)), (2, .ref (A 179)), (3, .ref (A 517)), (4, .int (Int32.ofInt i))]) (List.forall_mem_cons.mpr ⟨(List.Mem.tail _ (List.Mem.tail _ (List.Mem.head _))), (List.forall_mem_cons.mpr ⟨(List.Mem.tail _ (List.Mem.tail _ (List.Mem.tail _ (List.Mem.head _)))), (List.forall_mem_cons.mpr ⟨(List.Mem.tail _ (List.Mem.tail _ (List.Mem.tail _ (List.Mem.tail _ (List.Mem.head _))))), (List.forall_mem_cons.mpr ⟨(List.Mem.tail _ (List.Mem.tail _ (List.Mem.tail _ (List.Mem.tail _ (List.Mem.tail _ (List.Mem.head _)))))), (List.forall_mem_cons.mpr ⟨(List.Mem.tail _ (List.Mem.tail _ (List.Mem.tail _ (List.Mem.tail _ (List.Mem.tail _ (List.Mem.tail _ (List.Mem.head _))))))), (fun q h => absurd h List.not_mem_nil)⟩)⟩)⟩)⟩)⟩) (hk A _ Is9 JRLx_s9 JREQ_s9 (by first | exact hps9 | omega) (by first | exact oq_d7ce4408 ws9_12 ws6_12 p2 | omega) (by first | exact oq_5bcdc35f ws9_97 ws9_28 ws6_97 ws6_28 p3 | omega))
theorem lc_34 (G : GX l s0 D tys a0 dT) (GR : RS0 s0) (SF : SF0 s0) (GT : TXs0 s0) {k : kx_T} (X : AX k 350 dT) (E : kL k = l ∧ kS0 k = s0 ∧ kD k = D ∧ kR k = room_1) {q1 L : Nat} {xs : Nat → Int32} (S : SX k q1 L xs) (hL : L ≤ 3072) (I : Bd s) (jR : RLx s) (jREQ : REQ 39 234 28 s) (p1 : iI s 89 = 1) (p2 : iI s 12 ≤ 8) (p3 : iI s 28 = iI s 97) {i : Int} (hi : 0 ≤ i ∧ i + 6 ≤ (L : Int)) {ce sl : Nat} (hce : ce + 29 ≤ 601024) (hsl : sl + 222 ≤ 7293034) (hk : ∀ (A : Nat → Nat) (t : PS), Bd t → RLx t → REQ 39 234 28 t → iI t 89 = 1 → iI t 12 ≤ 8 → iI t 28 = iI t 97 → WS k 1866 [(0, .ref q1), (1, .ref (A 0)), (2, .ref (A 179)), (3, .ref (A 517)), (4, .int (Int32.ofInt i))] [] (Wd A dT t) (ce + 29) (sl + 222)) : WS k 1439 [(0, .ref q1), (1, .ref (A 0)), (2, .ref (A 179)), (3, .ref (A 517)), (4, .int (Int32.ofInt i))] [] (Wd A dT s) ce sl := by
  have F : Fm [1000, 1001, 73] [1460, 399] s s := fm_rf _ _ s
  have b1 := bi_28 I
  have b2 := bi_97 I
  have b3 := bi_12 I
  have b4 := bi_89 I
  refine z_aload_n X (x := A 0) rfl (List.Mem.tail _ (List.Mem.head _)) (z_aload_n X (x := q1) rfl (List.Mem.head _) (z_load X (x := i) rfl (List.Mem.tail _ (List.Mem.tail _ (List.Mem.tail _ (List.Mem.tail _ (List.Mem.head _))))) (z_const X rfl (z_add X rfl (z_sld X S hL rfl (show 0 ≤ (i + 1) ∧ (i + 1) < (L : Int) by first | exact sx_in hi (by decide) | omega) ?_)))))
  have sr5 : rng (sc xs (i + 1)) := sc_rng
  refine z_aload_n X (x := q1) rfl (List.Mem.head _) (z_load X (x := i) rfl (List.Mem.tail _ (List.Mem.tail _ (List.Mem.tail _ (List.Mem.tail _ (List.Mem.head _))))) (z_const X rfl (z_add X rfl (z_sld X S hL rfl (show 0 ≤ (i + 2) ∧ (i + 2) < (L : Int) by first | exact sx_in hi (by decide) | omega) ?_))))
  have sr6 : rng (sc xs (i + 2)) := sc_rng
  have N7 : ∀ e8 : Int, ((((sc xs (i + 2)) = 0) ∧ e8 = 0) ∨ (((sc xs (i + 2)) ≠ 0) ∧ e8 = 1)) → WS k 1460 [(0, .ref q1), (1, .ref (A 0)), (2, .ref (A 179)), (3, .ref (A 517)), (4, .int (Int32.ofInt i))] [.int (Int32.ofInt e8), .int (Int32.ofInt (sc xs (i + 1))), .ref (A 0)] (Wd A dT s) ce sl := by
    intro e8 he8
    have re8 : 0 ≤ e8 ∧ e8 ≤ 1 := by first | (clear he8; omega) | omega
    refine z_aload_n X (x := A 517) rfl (List.Mem.tail _ (List.Mem.tail _ (List.Mem.tail _ (List.Mem.head _)))) (z_callL X (rm := rmN 343) (As := [.ref (A 0), .int (Int32.ofInt (sc xs (i + 1))), .int (Int32.ofInt e8), .ref (A 517)]) (st := []) rfl (by decide) rfl (by rw [E.1, E.2.1, E.2.2.1]; exact lw_storm G I (by first | (clear he8; omega) | omega) (by first | (clear he8; omega) | omega)) ⟨by rw [E.2.2.2]; exact (show 9 + 1 ≤ 2048 by decide), by rw [E.2.2.2]; exact (show 8 + (5 + 11) + 168 ≤ 84000 by decide), by rw [E.2.2.2]; exact (show ce + 1 ≤ 601024 by first | exact rmo_1 hce (by decide) | exact rmo_2 hce (by decide) | omega), by rw [E.2.2.2]; exact (show sl + 6 ≤ 7293034 by first | exact rmo_1 hsl (by decide) | exact rmo_2 hsl (by decide) | omega)⟩ (Nat.le_of_ble_eq_true rfl) (fun vv A s9 hA2 hq => ?_) (fun ee A s9 hA2 hq => ?_))
    rotate_left
    · obtain ⟨Is9, Fs9, e10, hv, hrs9, hps9⟩ := hq; cases hv
    obtain ⟨Is9, Fs9, e10, hv, hrs9, hps9⟩ := hq
    cases hv
    rw [← hA2 0 (by decide)]
    rw [← hA2 179 (by decide)]
    rw [← hA2 517 (by decide)]
    have Gs9 := fm_tq F Fs9 rfl rfl
    have JRLx_s9 : RLx s9 := RLx_fm Fs9 (by decide) jR
    have JREQ_s9 : REQ 39 234 28 s9 := REQ_fm Fs9 (by decide) jREQ
    have ws9_28 : iI s9 28 = iI s 28 := fm_iq Fs9 rfl
    have ws9_97 : iI s9 97 = iI s 97 := fm_iq Fs9 rfl
    have ws9_12 : iI s9 12 = iI s 12 := fm_iq Fs9 rfl
    have ws9_89 : iI s9 89 = iI s 89 := fm_iq Fs9 rfl
    show WS k 1464 [(0, .ref q1), (1, .ref (A 0)), (2, .ref (A 179)), (3, .ref (A 517)), (4, .int (Int32.ofInt i))] [.int (Int32.ofInt e10)] (Wd A dT s9) (ce + 1) (sl + 6)
    refine z_store X (lv' := [(5, .int (Int32.ofInt e10)), (0, .ref q1), (1, .ref (A 0)), (2, .ref (A 179)), (3, .ref (A 517)), (4, .int (Int32.ofInt i))]) rfl (by decide) (fun _ h => h) (z_aload_n X (x := A 179) rfl (List.Mem.tail _ (List.Mem.tail _ (List.Mem.tail _ (List.Mem.head _)))) (z_aload_n X (x := q1) rfl (List.Mem.tail _ (List.Mem.head _)) (z_load X (x := i) rfl (List.Mem.tail _ (List.Mem.tail _ (List.Mem.tail _ (List.Mem.tail _ (List.Mem.tail _ (List.Mem.head _)))))) (z_const X rfl (z_add X rfl (z_sld X S hL rfl (show 0 ≤ (i + 1) ∧ (i + 1) < (L : Int) by first | exact sx_in hi (by decide) | omega) ?_))))))
    have sr11 : rng (sc xs (i + 1)) := sc_rng
    refine z_aload_n X (x := q1) rfl (List.Mem.tail _ (List.Mem.head _)) (z_load X (x := i) rfl (List.Mem.tail _ (List.Mem.tail _ (List.Mem.tail _ (List.Mem.tail _ (List.Mem.tail _ (List.Mem.head _)))))) (z_const X rfl (z_add X rfl (z_sld X S hL rfl (show 0 ≤ (i + 2) ∧ (i + 2) < (L : Int) by first | exact sx_in hi (by decide) | omega) ?_))))
    have sr12 : rng (sc xs (i + 2)) := sc_rng
    have N13 : ∀ e14 : Int, ((((sc xs (i + 2)) = 0) ∧ e14 = 0) ∨ (((sc xs (i + 2)) ≠ 0) ∧ e14 = 1)) → WS k 1487 [(5, .int (Int32.ofInt e10)), (0, .ref q1), (1, .ref (A 0)), (2, .ref (A 179)), (3, .ref (A 517)), (4, .int (Int32.ofInt i))] [.int (Int32.ofInt e14), .int (Int32.ofInt (sc xs (i + 1))), .ref (A 179)] (Wd A dT s9) (ce + 1) (sl + 6) := by
      intro e14 he14
      have re14 : 0 ≤ e14 ∧ e14 ≤ 1 := by first | (clear he14 he8; omega) | (clear he8; omega) | omega
      refine z_callV X 179 (rm := rmN 279) (As := [.int (Int32.ofInt (sc xs (i + 1))), .int (Int32.ofInt e14)]) (st := []) rfl rfl (by decide) rfl (by rw [E.1, E.2.1, E.2.2.1]; exact k_storm G Is9 (by first | exact ⟨sr11.1, sr11.2⟩ | omega) (by first | exact oq_54ac7134 re14.2 re14.1 he14 | omega)) ⟨by rw [E.2.2.2]; exact (show 7 + 1 ≤ 2048 from oq_4e6106eb), by rw [E.2.2.2]; exact (show 8 + (4 + 11) + 122 ≤ 84000 from oq_ebbf79c1), by rw [E.2.2.2]; exact (show (ce + 1) + 0 ≤ 601024 by first | (clear he14 he8; omega) | (clear he8; omega) | omega), by rw [E.2.2.2]; exact (show (sl + 6) + 0 ≤ 7293034 by first | (clear he14 he8; omega) | (clear he8; omega) | omega)⟩ (Nat.le_of_ble_eq_true rfl) (fun vv s15 hq => ?_) (fun ee s15 hq => ?_)
      rotate_left
      · obtain ⟨Is15, Fs15, e16, hv, hrs15, hps15⟩ := hq; cases hv
      obtain ⟨Is15, Fs15, e16, hv, hrs15, hps15⟩ := hq
      cases hv
      have Gs15 := fm_tq Gs9 Fs15 rfl rfl
      have JRLx_s15 : RLx s15 := RLx_fm Fs15 (by decide) JRLx_s9
      have JREQ_s15 : REQ 39 234 28 s15 := REQ_fm Fs15 (by decide) JREQ_s9
      have ws15_28 : iI s15 28 = iI s9 28 := fm_iq Fs15 rfl
      have ws15_97 : iI s15 97 = iI s9 97 := fm_iq Fs15 rfl
      have ws15_12 : iI s15 12 = iI s9 12 := fm_iq Fs15 rfl
      have ws15_89 : iI s15 89 = iI s9 89 := fm_iq Fs15 rfl
      have wos15 : iO s15 = iO s9 := fm_o Fs15 (by decide)
      show WS k 1490 [(5, .int (Int32.ofInt e10)), (0, .ref q1), (1, .ref (A 0)), (2, .ref (A 179)), (3, .ref (A 517)), (4, .int (Int32.ofInt i))] [.int (Int32.ofInt e16)] (Wd A dT s15) (ce + 1) (sl + 6)
      refine z_store X (lv' := [(6, .int (Int32.ofInt e16)), (5, .int (Int32.ofInt e10)), (0, .ref q1), (1, .ref (A 0)), (2, .ref (A 179)), (3, .ref (A 517)), (4, .int (Int32.ofInt i))]) rfl (by decide) (fun _ h => h) (z_goto X (t := 1866) rfl rfl (w_widen (ce' := ce + 29) (sl' := sl + 222) (by first | exact Nat.le_add_right _ _ | exact Nat.add_le_add_left (by decide) _ | omega) (by first | exact Nat.le_add_right _ _ | exact Nat.add_le_add_left (by decide) _ | omega) ?_))
      exact WS_lv (lv := [(0, .ref q1), (1, .ref (A 0)), (2, .ref (A 179)), (3, .ref (A 517)), (4, .int (Int32.ofInt i))]) (List.forall_mem_cons.mpr ⟨(List.Mem.tail _ (List.Mem.tail _ (List.Mem.head _))), (List.forall_mem_cons.mpr ⟨(List.Mem.tail _ (List.Mem.tail _ (List.Mem.tail _ (List.Mem.head _)))), (List.forall_mem_cons.mpr ⟨(List.Mem.tail _ (List.Mem.tail _ (List.Mem.tail _ (List.Mem.tail _ (List.Mem.head _))))), (List.forall_mem_cons.mpr ⟨(List.Mem.tail _ (List.Mem.tail _ (List.Mem.tail _ (List.Mem.tail _ (List.Mem.tail _ (List.Mem.head _)))))), (List.forall_mem_cons.mpr ⟨(List.Mem.tail _ (List.Mem.tail _ (List.Mem.tail _ (List.Mem.tail _ (List.Mem.tail _ (List.Mem.tail _ (List.Mem.head _))))))), (fun q h => absurd h List.not_mem_nil)⟩)⟩)⟩)⟩)⟩) (hk A _ Is15 JRLx_s15 JREQ_s15 (by first | exact oq_f34933ba ws15_89 ws9_89 p1 b4.1 | omega) (by first | exact oq_d7ce4408 ws15_12 ws9_12 p2 | omega) (by first | exact oq_5bcdc35f ws15_97 ws15_28 ws9_97 ws9_28 p3 | omega))
    refine z_if_eq X (t := 1486) rfl rfl ⟨by first | exact sr12.1 | omega, by first | exact sr12.2 | omega⟩ (fun g17 => ?_) (fun g17 => ?_)
    ·
      exact z_const X rfl (N13 _ (Or.inl ⟨g17, rfl⟩))
    ·
      exact z_const X rfl (z_goto X (t := 1487) rfl rfl (N13 _ (Or.inr (⟨g17, rfl⟩))))
  refine z_if_eq X (t := 1459) rfl rfl ⟨by first | exact sr6.1 | omega, by first | exact sr6.2 | omega⟩ (fun g18 => ?_) (fun g18 => ?_)
  ·
    exact z_const X rfl (N7 _ (Or.inl ⟨g18, rfl⟩))
  ·
    exact z_const X rfl (z_goto X (t := 1460) rfl rfl (N7 _ (Or.inr (⟨g18, rfl⟩))))
theorem lc_35 (G : GX l s0 D tys a0 dT) (GR : RS0 s0) (SF : SF0 s0) (GT : TXs0 s0) {k : kx_T} (X : AX k 350 dT) (E : kL k = l ∧ kS0 k = s0 ∧ kD k = D ∧ kR k = room_1) {q1 L : Nat} {xs : Nat → Int32} (S : SX k q1 L xs) (hL : L ≤ 3072) (I : Bd s) (jR : RLx s) (jREQ : REQ 39 234 28 s) (p1 : iI s 89 = 1) (p2 : iI s 12 ≤ 8) (p3 : iI s 28 = iI s 97) {i : Int} (hi : 0 ≤ i ∧ i + 6 ≤ (L : Int)) {ce sl : Nat} (hce : ce + 29 ≤ 601024) (hsl : sl + 222 ≤ 7293034) (hk : ∀ (A : Nat → Nat) (t : PS), Bd t → RLx t → REQ 39 234 28 t → iI t 89 = 1 → iI t 12 ≤ 8 → iI t 28 = iI t 97 → WS k 1866 [(0, .ref q1), (1, .ref (A 0)), (2, .ref (A 179)), (3, .ref (A 517)), (4, .int (Int32.ofInt i))] [] (Wd A dT t) (ce + 29) (sl + 222)) : WS k 1495 [(0, .ref q1), (1, .ref (A 0)), (2, .ref (A 179)), (3, .ref (A 517)), (4, .int (Int32.ofInt i))] [] (Wd A dT s) ce sl := by
  have F : Fm [43, 44, 46, 47, 49, 50, 52, 53, 55, 56, 58, 59, 61, 62, 64, 65, 67, 68, 42, 39, 40, 41, 73, 105, 106, 77, 75, 78, 79, 80, 81] [57, 58, 67, 62, 77, 78, 79, 73, 87, 80, 81, 82, 83, 84, 85, 86, 96, 89, 90, 91, 92, 93, 94, 95, 105, 98, 99, 100, 101, 102, 103, 104, 114, 107, 108, 109, 110, 111, 112, 113, 123, 116, 117, 118, 119, 120, 121, 122, 132, 125, 126, 127, 128, 129, 130, 131, 141, 134, 135, 136, 137, 138, 139, 140, 150, 143, 144, 145, 146, 147, 148, 149, 20, 76, 74, 75, 72, 1059, 1060, 1061, 1063, 1460, 401, 400, 403, 404, 232, 402, 405, 406, 407, 408, 409, 410, 411, 412, 413, 414, 415, 416, 202, 204, 205, 206, 207, 208, 209, 210, 211, 212, 213, 214, 215, 216, 217, 218, 219, 220, 221, 222, 223, 224, 225, 226, 227, 203, 161, 230] s s := fm_rf _ _ s
  have b1 := bi_28 I
  have b2 := bi_97 I
  have b3 := bi_12 I
  have b4 := bi_89 I
  refine z_aload_n X (x := A 0) rfl (List.Mem.tail _ (List.Mem.head _)) (z_aload_n X (x := q1) rfl (List.Mem.head _) (z_load X (x := i) rfl (List.Mem.tail _ (List.Mem.tail _ (List.Mem.tail _ (List.Mem.tail _ (List.Mem.head _))))) (z_const X rfl (z_add X rfl (z_sld X S hL rfl (show 0 ≤ (i + 1) ∧ (i + 1) < (L : Int) by first | exact sx_in hi (by decide) | omega) ?_)))))
  have sr5 : rng (sc xs (i + 1)) := sc_rng
  refine z_aload_n X (x := q1) rfl (List.Mem.head _) (z_load X (x := i) rfl (List.Mem.tail _ (List.Mem.tail _ (List.Mem.tail _ (List.Mem.tail _ (List.Mem.head _))))) (z_const X rfl (z_add X rfl (z_sld X S hL rfl (show 0 ≤ (i + 2) ∧ (i + 2) < (L : Int) by first | exact sx_in hi (by decide) | omega) ?_))))
  have sr6 : rng (sc xs (i + 2)) := sc_rng
  refine z_aload_n X (x := q1) rfl (List.Mem.head _) (z_load X (x := i) rfl (List.Mem.tail _ (List.Mem.tail _ (List.Mem.tail _ (List.Mem.tail _ (List.Mem.head _))))) (z_const X rfl (z_add X rfl (z_sld X S hL rfl (show 0 ≤ (i + 3) ∧ (i + 3) < (L : Int) by first | exact sx_in hi (by decide) | omega) ?_))))
  have sr7 : rng (sc xs (i + 3)) := sc_rng
  refine z_aload_n X (x := q1) rfl (List.Mem.head _) (z_load X (x := i) rfl (List.Mem.tail _ (List.Mem.tail _ (List.Mem.tail _ (List.Mem.tail _ (List.Mem.head _))))) (z_const X rfl (z_add X rfl (z_sld X S hL rfl (show 0 ≤ (i + 4) ∧ (i + 4) < (L : Int) by first | exact sx_in hi (by decide) | omega) ?_))))
  have sr8 : rng (sc xs (i + 4)) := sc_rng
  refine z_aload_n X (x := A 517) rfl (List.Mem.tail _ (List.Mem.tail _ (List.Mem.tail _ (List.Mem.head _)))) (z_callL X (rm := rmN 344) (As := [.ref (A 0), .int (Int32.ofInt (sc xs (i + 1))), .int (Int32.ofInt (sc xs (i + 2))), .int (Int32.ofInt (sc xs (i + 3))), .int (Int32.ofInt (sc xs (i + 4))), .ref (A 517)]) (st := []) rfl (by decide) rfl (by rw [E.1, E.2.1, E.2.2.1]; exact lw_mends G GR I (by omega) (by omega) (by omega) (by omega)) ⟨by rw [E.2.2.2]; exact (show 55 + 1 ≤ 2048 by decide), by rw [E.2.2.2]; exact (show 8 + (7 + 11) + 2372 ≤ 84000 by decide), by rw [E.2.2.2]; exact (show ce + 4 ≤ 601024 by first | exact rmo_1 hce (by decide) | exact rmo_2 hce (by decide) | omega), by rw [E.2.2.2]; exact (show sl + 24 ≤ 7293034 by first | exact rmo_1 hsl (by decide) | exact rmo_2 hsl (by decide) | omega)⟩ (Nat.le_of_ble_eq_true rfl) (fun vv A s9 hA2 hq => ?_) (fun ee A s9 hA2 hq => ?_))
  rotate_left
  · obtain ⟨Is9, Fs9, e10, hv, hrs9, hps9⟩ := hq; cases hv
  obtain ⟨Is9, Fs9, e10, hv, hrs9, hps9⟩ := hq
  cases hv
  rw [← hA2 0 (by decide)]
  rw [← hA2 179 (by decide)]
  rw [← hA2 517 (by decide)]
  have Gs9 := fm_ts F Fs9 (by decide) (by decide +kernel)
  have JRLx_s9 : RLx s9 := RLx_fm Fs9 (by decide) jR
  have JREQ_s9 : REQ 39 234 28 s9 := REQ_fm Fs9 (by decide) jREQ
  have ws9_28 : iI s9 28 = iI s 28 := fm_iq Fs9 rfl
  have ws9_97 : iI s9 97 = iI s 97 := fm_iq Fs9 rfl
  have ws9_12 : iI s9 12 = iI s 12 := fm_iq Fs9 rfl
  have ws9_89 : iI s9 89 = iI s 89 := fm_iq Fs9 rfl
  show WS k 1524 [(0, .ref q1), (1, .ref (A 0)), (2, .ref (A 179)), (3, .ref (A 517)), (4, .int (Int32.ofInt i))] [.int (Int32.ofInt e10)] (Wd A dT s9) (ce + 4) (sl + 24)
  refine z_store X (lv' := [(5, .int (Int32.ofInt e10)), (0, .ref q1), (1, .ref (A 0)), (2, .ref (A 179)), (3, .ref (A 517)), (4, .int (Int32.ofInt i))]) rfl (by decide) (fun _ h => h) (z_aload_n X (x := A 179) rfl (List.Mem.tail _ (List.Mem.tail _ (List.Mem.tail _ (List.Mem.head _)))) (z_aload_n X (x := q1) rfl (List.Mem.tail _ (List.Mem.head _)) (z_load X (x := i) rfl (List.Mem.tail _ (List.Mem.tail _ (List.Mem.tail _ (List.Mem.tail _ (List.Mem.tail _ (List.Mem.head _)))))) (z_const X rfl (z_add X rfl (z_sld X S hL rfl (show 0 ≤ (i + 1) ∧ (i + 1) < (L : Int) by first | exact sx_in hi (by decide) | omega) ?_))))))
  have sr11 : rng (sc xs (i + 1)) := sc_rng
  refine z_aload_n X (x := q1) rfl (List.Mem.tail _ (List.Mem.head _)) (z_load X (x := i) rfl (List.Mem.tail _ (List.Mem.tail _ (List.Mem.tail _ (List.Mem.tail _ (List.Mem.tail _ (List.Mem.head _)))))) (z_const X rfl (z_add X rfl (z_sld X S hL rfl (show 0 ≤ (i + 2) ∧ (i + 2) < (L : Int) by first | exact sx_in hi (by decide) | omega) ?_))))
  have sr12 : rng (sc xs (i + 2)) := sc_rng
  refine z_aload_n X (x := q1) rfl (List.Mem.tail _ (List.Mem.head _)) (z_load X (x := i) rfl (List.Mem.tail _ (List.Mem.tail _ (List.Mem.tail _ (List.Mem.tail _ (List.Mem.tail _ (List.Mem.head _)))))) (z_const X rfl (z_add X rfl (z_sld X S hL rfl (show 0 ≤ (i + 3) ∧ (i + 3) < (L : Int) by first | exact sx_in hi (by decide) | omega) ?_))))
  have sr13 : rng (sc xs (i + 3)) := sc_rng
  refine z_aload_n X (x := q1) rfl (List.Mem.tail _ (List.Mem.head _)) (z_load X (x := i) rfl (List.Mem.tail _ (List.Mem.tail _ (List.Mem.tail _ (List.Mem.tail _ (List.Mem.tail _ (List.Mem.head _)))))) (z_const X rfl (z_add X rfl (z_sld X S hL rfl (show 0 ≤ (i + 4) ∧ (i + 4) < (L : Int) by first | exact sx_in hi (by decide) | omega) ?_))))
  have sr14 : rng (sc xs (i + 4)) := sc_rng
  refine z_callV X 179 (rm := rmN 286) (As := [.int (Int32.ofInt (sc xs (i + 1))), .int (Int32.ofInt (sc xs (i + 2))), .int (Int32.ofInt (sc xs (i + 3))), .int (Int32.ofInt (sc xs (i + 4)))]) (st := []) rfl rfl (by decide) rfl (by rw [E.1, E.2.1, E.2.2.1]; exact k_mends G Is9 JRLx_s9 (by first | exact ⟨sr11.1, sr11.2⟩ | omega) (by first | exact ⟨sr12.1, sr12.2⟩ | omega) (by first | exact ⟨sr13.1, sr13.2⟩ | omega) (by first | exact ⟨sr14.1, sr14.2⟩ | omega)) ⟨by rw [E.2.2.2]; exact (show 73 + 1 ≤ 2048 from oq_c67cc45d), by rw [E.2.2.2]; exact (show 8 + (7 + 11) + 3227 ≤ 84000 from oq_f40e0be7), by rw [E.2.2.2]; exact (show (ce + 4) + 0 ≤ 601024 by omega), by rw [E.2.2.2]; exact (show (sl + 24) + 0 ≤ 7293034 by omega)⟩ (Nat.le_of_ble_eq_true rfl) (fun vv s15 hq => ?_) (fun ee s15 hq => ?_)
  rotate_left
  · obtain ⟨Is15, Fs15, JRLx_s15, e16, hv, hrs15, hps15⟩ := hq; cases hv
  obtain ⟨Is15, Fs15, JRLx_s15, e16, hv, hrs15, hps15⟩ := hq
  cases hv
  have Gs15 := fm_tq Gs9 Fs15 rfl rfl
  have JRLx_s15 : RLx s15 := RLx_fm Fs15 (by decide) JRLx_s9
  have JREQ_s15 : REQ 39 234 28 s15 := REQ_fm Fs15 (by decide) JREQ_s9
  have ws15_28 : iI s15 28 = iI s9 28 := fm_iq Fs15 rfl
  have ws15_97 : iI s15 97 = iI s9 97 := fm_iq Fs15 rfl
  have ws15_12 : iI s15 12 = iI s9 12 := fm_iq Fs15 rfl
  have ws15_89 : iI s15 89 = iI s9 89 := fm_iq Fs15 rfl
  have wos15 : iO s15 = iO s9 := fm_o Fs15 (by decide)
  show WS k 1554 [(5, .int (Int32.ofInt e10)), (0, .ref q1), (1, .ref (A 0)), (2, .ref (A 179)), (3, .ref (A 517)), (4, .int (Int32.ofInt i))] [.int (Int32.ofInt e16)] (Wd A dT s15) (ce + 4) (sl + 24)
  refine z_store X (lv' := [(6, .int (Int32.ofInt e16)), (5, .int (Int32.ofInt e10)), (0, .ref q1), (1, .ref (A 0)), (2, .ref (A 179)), (3, .ref (A 517)), (4, .int (Int32.ofInt i))]) rfl (by decide) (fun _ h => h) (z_goto X (t := 1866) rfl rfl (w_widen (ce' := ce + 29) (sl' := sl + 222) (by first | exact Nat.le_add_right _ _ | exact Nat.add_le_add_left (by decide) _ | omega) (by first | exact Nat.le_add_right _ _ | exact Nat.add_le_add_left (by decide) _ | omega) ?_))
  exact WS_lv (lv := [(0, .ref q1), (1, .ref (A 0)), (2, .ref (A 179)), (3, .ref (A 517)), (4, .int (Int32.ofInt i))]) (List.forall_mem_cons.mpr ⟨(List.Mem.tail _ (List.Mem.tail _ (List.Mem.head _))), (List.forall_mem_cons.mpr ⟨(List.Mem.tail _ (List.Mem.tail _ (List.Mem.tail _ (List.Mem.head _)))), (List.forall_mem_cons.mpr ⟨(List.Mem.tail _ (List.Mem.tail _ (List.Mem.tail _ (List.Mem.tail _ (List.Mem.head _))))), (List.forall_mem_cons.mpr ⟨(List.Mem.tail _ (List.Mem.tail _ (List.Mem.tail _ (List.Mem.tail _ (List.Mem.tail _ (List.Mem.head _)))))), (List.forall_mem_cons.mpr ⟨(List.Mem.tail _ (List.Mem.tail _ (List.Mem.tail _ (List.Mem.tail _ (List.Mem.tail _ (List.Mem.tail _ (List.Mem.head _))))))), (fun q h => absurd h List.not_mem_nil)⟩)⟩)⟩)⟩)⟩) (hk A _ Is15 JRLx_s15 JREQ_s15 (by first | exact oq_f34933ba ws15_89 ws9_89 p1 b4.1 | omega) (by first | exact oq_d7ce4408 ws15_12 ws9_12 p2 | omega) (by first | exact oq_5bcdc35f ws15_97 ws15_28 ws9_97 ws9_28 p3 | omega))
theorem lc_36 (G : GX l s0 D tys a0 dT) (GR : RS0 s0) (SF : SF0 s0) (GT : TXs0 s0) {k : kx_T} (X : AX k 350 dT) (E : kL k = l ∧ kS0 k = s0 ∧ kD k = D ∧ kR k = room_1) {q1 L : Nat} {xs : Nat → Int32} (S : SX k q1 L xs) (hL : L ≤ 3072) (I : Bd s) (jR : RLx s) (jREQ : REQ 39 234 28 s) (p1 : iI s 89 = 1) (p2 : iI s 12 ≤ 8) (p3 : iI s 28 = iI s 97) {i : Int} (hi : 0 ≤ i ∧ i + 6 ≤ (L : Int)) {ce sl : Nat} (hce : ce + 29 ≤ 601024) (hsl : sl + 222 ≤ 7293034) (hk : ∀ (A : Nat → Nat) (t : PS), Bd t → RLx t → REQ 39 234 28 t → iI t 89 = 1 → iI t 12 ≤ 8 → iI t 28 = iI t 97 → WS k 1866 [(0, .ref q1), (1, .ref (A 0)), (2, .ref (A 179)), (3, .ref (A 517)), (4, .int (Int32.ofInt i))] [] (Wd A dT t) (ce + 29) (sl + 222)) : WS k 1559 [(0, .ref q1), (1, .ref (A 0)), (2, .ref (A 179)), (3, .ref (A 517)), (4, .int (Int32.ofInt i))] [] (Wd A dT s) ce sl := by
  have F : Fm [22, 23, 70, 73, 107, 77, 75, 78, 79, 80, 81] [33, 26, 27, 28, 29, 30, 31, 32, 152, 153, 154, 1460, 202, 204, 205, 206, 207, 208, 209, 210, 211, 212, 213, 214, 215, 216, 217, 218, 219, 220, 221, 222, 223, 224, 225, 226, 227, 203, 161, 230, 417, 418, 419, 420, 421, 422, 423, 424, 425, 426, 427, 428, 429, 430, 431, 432, 433, 434, 435, 436, 437, 438, 439, 440, 441, 442, 443, 444, 445, 446, 447, 448, 449, 450, 451, 452, 453, 454, 455, 456, 457, 459] s s := fm_rf _ _ s
  have b1 := bi_28 I
  have b2 := bi_97 I
  have b3 := bi_12 I
  have b4 := bi_89 I
  refine z_aload_n X (x := A 0) rfl (List.Mem.tail _ (List.Mem.head _)) (z_aload_n X (x := q1) rfl (List.Mem.head _) (z_load X (x := i) rfl (List.Mem.tail _ (List.Mem.tail _ (List.Mem.tail _ (List.Mem.tail _ (List.Mem.head _))))) (z_const X rfl (z_add X rfl (z_sld X S hL rfl (show 0 ≤ (i + 1) ∧ (i + 1) < (L : Int) by first | exact sx_in hi (by decide) | omega) ?_)))))
  have sr5 : rng (sc xs (i + 1)) := sc_rng
  refine z_aload_n X (x := q1) rfl (List.Mem.head _) (z_load X (x := i) rfl (List.Mem.tail _ (List.Mem.tail _ (List.Mem.tail _ (List.Mem.tail _ (List.Mem.head _))))) (z_const X rfl (z_add X rfl (z_sld X S hL rfl (show 0 ≤ (i + 2) ∧ (i + 2) < (L : Int) by first | exact sx_in hi (by decide) | omega) ?_))))
  have sr6 : rng (sc xs (i + 2)) := sc_rng
  refine z_aload_n X (x := q1) rfl (List.Mem.head _) (z_load X (x := i) rfl (List.Mem.tail _ (List.Mem.tail _ (List.Mem.tail _ (List.Mem.tail _ (List.Mem.head _))))) (z_const X rfl (z_add X rfl (z_sld X S hL rfl (show 0 ≤ (i + 3) ∧ (i + 3) < (L : Int) by first | exact sx_in hi (by decide) | omega) ?_))))
  have sr7 : rng (sc xs (i + 3)) := sc_rng
  refine z_aload_n X (x := q1) rfl (List.Mem.head _) (z_load X (x := i) rfl (List.Mem.tail _ (List.Mem.tail _ (List.Mem.tail _ (List.Mem.tail _ (List.Mem.head _))))) (z_const X rfl (z_add X rfl (z_sld X S hL rfl (show 0 ≤ (i + 4) ∧ (i + 4) < (L : Int) by first | exact sx_in hi (by decide) | omega) ?_))))
  have sr8 : rng (sc xs (i + 4)) := sc_rng
  have N9 : ∀ e10 : Int, ((((sc xs (i + 4)) = 0) ∧ e10 = 0) ∨ (((sc xs (i + 4)) ≠ 0) ∧ e10 = 1)) → WS k 1592 [(0, .ref q1), (1, .ref (A 0)), (2, .ref (A 179)), (3, .ref (A 517)), (4, .int (Int32.ofInt i))] [.int (Int32.ofInt e10), .int (Int32.ofInt (sc xs (i + 3))), .int (Int32.ofInt (sc xs (i + 2))), .int (Int32.ofInt (sc xs (i + 1))), .ref (A 0)] (Wd A dT s) ce sl := by
    intro e10 he10
    have re10 : 0 ≤ e10 ∧ e10 ≤ 1 := by first | (clear he10; omega) | omega
    refine z_aload_n X (x := A 517) rfl (List.Mem.tail _ (List.Mem.tail _ (List.Mem.tail _ (List.Mem.head _)))) (z_callL X (rm := rmN 345) (As := [.ref (A 0), .int (Int32.ofInt (sc xs (i + 1))), .int (Int32.ofInt (sc xs (i + 2))), .int (Int32.ofInt (sc xs (i + 3))), .int (Int32.ofInt e10), .ref (A 517)]) (st := []) rfl (by decide) rfl (by rw [E.1, E.2.1, E.2.2.1]; exact lw_did G I (by first | (clear he10; omega) | omega) (by first | (clear he10; omega) | omega) (by first | (clear he10; omega) | omega) (by first | (clear he10; omega) | omega)) ⟨by rw [E.2.2.2]; exact (show 11 + 1 ≤ 2048 by decide), by rw [E.2.2.2]; exact (show 8 + (7 + 11) + 229 ≤ 84000 by decide), by rw [E.2.2.2]; exact (show ce + 3 ≤ 601024 by first | exact rmo_1 hce (by decide) | exact rmo_2 hce (by decide) | omega), by rw [E.2.2.2]; exact (show sl + 18 ≤ 7293034 by first | exact rmo_1 hsl (by decide) | exact rmo_2 hsl (by decide) | omega)⟩ (Nat.le_of_ble_eq_true rfl) (fun vv A s11 hA2 hq => ?_) (fun ee A s11 hA2 hq => ?_))
    rotate_left
    · obtain ⟨Is11, Fs11, e12, hv, hrs11, hps11⟩ := hq; cases hv
    obtain ⟨Is11, Fs11, e12, hv, hrs11, hps11⟩ := hq
    cases hv
    rw [← hA2 0 (by decide)]
    rw [← hA2 179 (by decide)]
    rw [← hA2 517 (by decide)]
    have Gs11 := fm_tq F Fs11 rfl rfl
    have JRLx_s11 : RLx s11 := RLx_fm Fs11 (by decide) jR
    have JREQ_s11 : REQ 39 234 28 s11 := REQ_fm Fs11 (by decide) jREQ
    have ws11_28 : iI s11 28 = iI s 28 := fm_iq Fs11 rfl
    have ws11_97 : iI s11 97 = iI s 97 := fm_iq Fs11 rfl
    have ws11_12 : iI s11 12 = iI s 12 := fm_iq Fs11 rfl
    have ws11_89 : iI s11 89 = iI s 89 := fm_iq Fs11 rfl
    show WS k 1596 [(0, .ref q1), (1, .ref (A 0)), (2, .ref (A 179)), (3, .ref (A 517)), (4, .int (Int32.ofInt i))] [.int (Int32.ofInt e12)] (Wd A dT s11) (ce + 3) (sl + 18)
    refine z_store X (lv' := [(5, .int (Int32.ofInt e12)), (0, .ref q1), (1, .ref (A 0)), (2, .ref (A 179)), (3, .ref (A 517)), (4, .int (Int32.ofInt i))]) rfl (by decide) (fun _ h => h) (z_aload_n X (x := A 179) rfl (List.Mem.tail _ (List.Mem.tail _ (List.Mem.tail _ (List.Mem.head _)))) (z_aload_n X (x := q1) rfl (List.Mem.tail _ (List.Mem.head _)) (z_load X (x := i) rfl (List.Mem.tail _ (List.Mem.tail _ (List.Mem.tail _ (List.Mem.tail _ (List.Mem.tail _ (List.Mem.head _)))))) (z_const X rfl (z_add X rfl (z_sld X S hL rfl (show 0 ≤ (i + 1) ∧ (i + 1) < (L : Int) by first | exact sx_in hi (by decide) | omega) ?_))))))
    have sr13 : rng (sc xs (i + 1)) := sc_rng
    refine z_aload_n X (x := q1) rfl (List.Mem.tail _ (List.Mem.head _)) (z_load X (x := i) rfl (List.Mem.tail _ (List.Mem.tail _ (List.Mem.tail _ (List.Mem.tail _ (List.Mem.tail _ (List.Mem.head _)))))) (z_const X rfl (z_add X rfl (z_sld X S hL rfl (show 0 ≤ (i + 2) ∧ (i + 2) < (L : Int) by first | exact sx_in hi (by decide) | omega) ?_))))
    have sr14 : rng (sc xs (i + 2)) := sc_rng
    refine z_aload_n X (x := q1) rfl (List.Mem.tail _ (List.Mem.head _)) (z_load X (x := i) rfl (List.Mem.tail _ (List.Mem.tail _ (List.Mem.tail _ (List.Mem.tail _ (List.Mem.tail _ (List.Mem.head _)))))) (z_const X rfl (z_add X rfl (z_sld X S hL rfl (show 0 ≤ (i + 3) ∧ (i + 3) < (L : Int) by first | exact sx_in hi (by decide) | omega) ?_))))
    have sr15 : rng (sc xs (i + 3)) := sc_rng
    refine z_aload_n X (x := q1) rfl (List.Mem.tail _ (List.Mem.head _)) (z_load X (x := i) rfl (List.Mem.tail _ (List.Mem.tail _ (List.Mem.tail _ (List.Mem.tail _ (List.Mem.tail _ (List.Mem.head _)))))) (z_const X rfl (z_add X rfl (z_sld X S hL rfl (show 0 ≤ (i + 4) ∧ (i + 4) < (L : Int) by first | exact sx_in hi (by decide) | omega) ?_))))
    have sr16 : rng (sc xs (i + 4)) := sc_rng
    have N17 : ∀ e18 : Int, ((((sc xs (i + 4)) = 0) ∧ e18 = 0) ∨ (((sc xs (i + 4)) ≠ 0) ∧ e18 = 1)) → WS k 1631 [(5, .int (Int32.ofInt e12)), (0, .ref q1), (1, .ref (A 0)), (2, .ref (A 179)), (3, .ref (A 517)), (4, .int (Int32.ofInt i))] [.int (Int32.ofInt e18), .int (Int32.ofInt (sc xs (i + 3))), .int (Int32.ofInt (sc xs (i + 2))), .int (Int32.ofInt (sc xs (i + 1))), .ref (A 179)] (Wd A dT s11) (ce + 3) (sl + 18) := by
      intro e18 he18
      have re18 : 0 ≤ e18 ∧ e18 ≤ 1 := by first | (clear he18 he10; omega) | (clear he10; omega) | omega
      refine z_callV X 179 (rm := rmN 287) (As := [.int (Int32.ofInt (sc xs (i + 1))), .int (Int32.ofInt (sc xs (i + 2))), .int (Int32.ofInt (sc xs (i + 3))), .int (Int32.ofInt e18)]) (st := []) rfl rfl (by decide) rfl (by rw [E.1, E.2.1, E.2.2.1]; exact k_did G Is11 JRLx_s11 (by first | exact ⟨sr13.1, sr13.2⟩ | omega) (by first | exact ⟨sr14.1, sr14.2⟩ | omega) (by first | exact ⟨sr15.1, sr15.2⟩ | omega) (by first | exact oq_31e518ae re18.2 re18.1 | omega)) ⟨by rw [E.2.2.2]; exact (show 10 + 1 ≤ 2048 from oq_5655e407), by rw [E.2.2.2]; exact (show 8 + (6 + 11) + 189 ≤ 84000 from oq_f8649f31), by rw [E.2.2.2]; exact (show (ce + 3) + 0 ≤ 601024 by first | (clear he18 he10; omega) | (clear he10; omega) | omega), by rw [E.2.2.2]; exact (show (sl + 18) + 0 ≤ 7293034 by first | (clear he18 he10; omega) | (clear he10; omega) | omega)⟩ (Nat.le_of_ble_eq_true rfl) (fun vv s19 hq => ?_) (fun ee s19 hq => ?_)
      rotate_left
      · obtain ⟨Is19, Fs19, JRLx_s19, e20, hv, hrs19, hps19⟩ := hq; cases hv
      obtain ⟨Is19, Fs19, JRLx_s19, e20, hv, hrs19, hps19⟩ := hq
      cases hv
      have Gs19 := fm_ts Gs11 Fs19 (by decide) (by decide +kernel)
      have JRLx_s19 : RLx s19 := RLx_fm Fs19 (by decide) JRLx_s11
      have JREQ_s19 : REQ 39 234 28 s19 := REQ_fm Fs19 (by decide) JREQ_s11
      have ws19_28 : iI s19 28 = iI s11 28 := fm_iq Fs19 rfl
      have ws19_97 : iI s19 97 = iI s11 97 := fm_iq Fs19 rfl
      have ws19_12 : iI s19 12 = iI s11 12 := fm_iq Fs19 rfl
      have ws19_89 : iI s19 89 = iI s11 89 := fm_iq Fs19 rfl
      have wos19 : iO s19 = iO s11 := fm_o Fs19 (by decide)
      show WS k 1634 [(5, .int (Int32.ofInt e12)), (0, .ref q1), (1, .ref (A 0)), (2, .ref (A 179)), (3, .ref (A 517)), (4, .int (Int32.ofInt i))] [.int (Int32.ofInt e20)] (Wd A dT s19) (ce + 3) (sl + 18)
      refine z_store X (lv' := [(6, .int (Int32.ofInt e20)), (5, .int (Int32.ofInt e12)), (0, .ref q1), (1, .ref (A 0)), (2, .ref (A 179)), (3, .ref (A 517)), (4, .int (Int32.ofInt i))]) rfl (by decide) (fun _ h => h) (z_goto X (t := 1866) rfl rfl (w_widen (ce' := ce + 29) (sl' := sl + 222) (by first | exact Nat.le_add_right _ _ | exact Nat.add_le_add_left (by decide) _ | omega) (by first | exact Nat.le_add_right _ _ | exact Nat.add_le_add_left (by decide) _ | omega) ?_))
      exact WS_lv (lv := [(0, .ref q1), (1, .ref (A 0)), (2, .ref (A 179)), (3, .ref (A 517)), (4, .int (Int32.ofInt i))]) (List.forall_mem_cons.mpr ⟨(List.Mem.tail _ (List.Mem.tail _ (List.Mem.head _))), (List.forall_mem_cons.mpr ⟨(List.Mem.tail _ (List.Mem.tail _ (List.Mem.tail _ (List.Mem.head _)))), (List.forall_mem_cons.mpr ⟨(List.Mem.tail _ (List.Mem.tail _ (List.Mem.tail _ (List.Mem.tail _ (List.Mem.head _))))), (List.forall_mem_cons.mpr ⟨(List.Mem.tail _ (List.Mem.tail _ (List.Mem.tail _ (List.Mem.tail _ (List.Mem.tail _ (List.Mem.head _)))))), (List.forall_mem_cons.mpr ⟨(List.Mem.tail _ (List.Mem.tail _ (List.Mem.tail _ (List.Mem.tail _ (List.Mem.tail _ (List.Mem.tail _ (List.Mem.head _))))))), (fun q h => absurd h List.not_mem_nil)⟩)⟩)⟩)⟩)⟩) (hk A _ Is19 JRLx_s19 JREQ_s19 (by first | exact oq_f34933ba ws19_89 ws11_89 p1 b4.1 | omega) (by first | exact oq_d7ce4408 ws19_12 ws11_12 p2 | omega) (by first | exact oq_5bcdc35f ws19_97 ws19_28 ws11_97 ws11_28 p3 | omega))
    refine z_if_eq X (t := 1630) rfl rfl ⟨by first | exact sr16.1 | omega, by first | exact sr16.2 | omega⟩ (fun g21 => ?_) (fun g21 => ?_)
    ·
      exact z_const X rfl (N17 _ (Or.inl ⟨g21, rfl⟩))
    ·
      exact z_const X rfl (z_goto X (t := 1631) rfl rfl (N17 _ (Or.inr (⟨g21, rfl⟩))))
  refine z_if_eq X (t := 1591) rfl rfl ⟨by first | exact sr8.1 | omega, by first | exact sr8.2 | omega⟩ (fun g22 => ?_) (fun g22 => ?_)
  ·
    exact z_const X rfl (N9 _ (Or.inl ⟨g22, rfl⟩))
  ·
    exact z_const X rfl (z_goto X (t := 1592) rfl rfl (N9 _ (Or.inr (⟨g22, rfl⟩))))
theorem lc_37 (G : GX l s0 D tys a0 dT) (GR : RS0 s0) (SF : SF0 s0) (GT : TXs0 s0) {k : kx_T} (X : AX k 350 dT) (E : kL k = l ∧ kS0 k = s0 ∧ kD k = D ∧ kR k = room_1) {q1 L : Nat} {xs : Nat → Int32} (S : SX k q1 L xs) (hL : L ≤ 3072) (I : Bd s) (jR : RLx s) (jREQ : REQ 39 234 28 s) (p1 : iI s 89 = 1) (p2 : iI s 12 ≤ 8) (p3 : iI s 28 = iI s 97) {i : Int} (hi : 0 ≤ i ∧ i + 6 ≤ (L : Int)) {ce sl : Nat} (hce : ce + 29 ≤ 601024) (hsl : sl + 222 ≤ 7293034) (hk : ∀ (A : Nat → Nat) (t : PS), Bd t → RLx t → REQ 39 234 28 t → iI t 89 = 1 → iI t 12 ≤ 8 → iI t 28 = iI t 97 → WS k 1866 [(0, .ref q1), (1, .ref (A 0)), (2, .ref (A 179)), (3, .ref (A 517)), (4, .int (Int32.ofInt i))] [] (Wd A dT t) (ce + 29) (sl + 222)) : WS k 1639 [(0, .ref q1), (1, .ref (A 0)), (2, .ref (A 179)), (3, .ref (A 517)), (4, .int (Int32.ofInt i))] [] (Wd A dT s) ce sl := by
  have F : Fm [71, 72, 73] [156, 155, 1460] s s := fm_rf _ _ s
  have b1 := bi_28 I
  have b2 := bi_97 I
  have b3 := bi_12 I
  have b4 := bi_89 I
  refine z_aload_n X (x := A 0) rfl (List.Mem.tail _ (List.Mem.head _)) (z_aload_n X (x := q1) rfl (List.Mem.head _) (z_load X (x := i) rfl (List.Mem.tail _ (List.Mem.tail _ (List.Mem.tail _ (List.Mem.tail _ (List.Mem.head _))))) (z_const X rfl (z_add X rfl (z_sld X S hL rfl (show 0 ≤ (i + 1) ∧ (i + 1) < (L : Int) by first | exact sx_in hi (by decide) | omega) ?_)))))
  have sr5 : rng (sc xs (i + 1)) := sc_rng
  refine z_aload_n X (x := A 517) rfl (List.Mem.tail _ (List.Mem.tail _ (List.Mem.tail _ (List.Mem.head _)))) (z_callL X (rm := rmN 346) (As := [.ref (A 0), .int (Int32.ofInt (sc xs (i + 1))), .ref (A 517)]) (st := []) rfl (by decide) rfl (by rw [E.1, E.2.1, E.2.2.1]; exact lw_fit G I (by omega)) ⟨by rw [E.2.2.2]; exact (show 10 + 1 ≤ 2048 by decide), by rw [E.2.2.2]; exact (show 8 + (4 + 11) + 190 ≤ 84000 by decide), by rw [E.2.2.2]; exact (show ce + 1 ≤ 601024 by first | exact rmo_1 hce (by decide) | exact rmo_2 hce (by decide) | omega), by rw [E.2.2.2]; exact (show sl + 6 ≤ 7293034 by first | exact rmo_1 hsl (by decide) | exact rmo_2 hsl (by decide) | omega)⟩ (Nat.le_of_ble_eq_true rfl) (fun vv A s6 hA2 hq => ?_) (fun ee A s6 hA2 hq => ?_))
  rotate_left
  · obtain ⟨Is6, Fs6, e7, hv, hrs6, hps6⟩ := hq; cases hv
  obtain ⟨Is6, Fs6, e7, hv, hrs6, hps6⟩ := hq
  cases hv
  rw [← hA2 0 (by decide)]
  rw [← hA2 179 (by decide)]
  rw [← hA2 517 (by decide)]
  have Gs6 := fm_tq F Fs6 rfl rfl
  have JRLx_s6 : RLx s6 := RLx_fm Fs6 (by decide) jR
  have JREQ_s6 : REQ 39 234 28 s6 := REQ_fm Fs6 (by decide) jREQ
  have ws6_28 : iI s6 28 = iI s 28 := fm_iq Fs6 rfl
  have ws6_97 : iI s6 97 = iI s 97 := fm_iq Fs6 rfl
  have ws6_12 : iI s6 12 = iI s 12 := fm_iq Fs6 rfl
  have ws6_89 : iI s6 89 = iI s 89 := fm_iq Fs6 rfl
  show WS k 1650 [(0, .ref q1), (1, .ref (A 0)), (2, .ref (A 179)), (3, .ref (A 517)), (4, .int (Int32.ofInt i))] [.int (Int32.ofInt e7)] (Wd A dT s6) (ce + 1) (sl + 6)
  refine z_store X (lv' := [(5, .int (Int32.ofInt e7)), (0, .ref q1), (1, .ref (A 0)), (2, .ref (A 179)), (3, .ref (A 517)), (4, .int (Int32.ofInt i))]) rfl (by decide) (fun _ h => h) (z_aload_n X (x := A 179) rfl (List.Mem.tail _ (List.Mem.tail _ (List.Mem.tail _ (List.Mem.head _)))) (z_aload_n X (x := q1) rfl (List.Mem.tail _ (List.Mem.head _)) (z_load X (x := i) rfl (List.Mem.tail _ (List.Mem.tail _ (List.Mem.tail _ (List.Mem.tail _ (List.Mem.tail _ (List.Mem.head _)))))) (z_const X rfl (z_add X rfl (z_sld X S hL rfl (show 0 ≤ (i + 1) ∧ (i + 1) < (L : Int) by first | exact sx_in hi (by decide) | omega) ?_))))))
  have sr8 : rng (sc xs (i + 1)) := sc_rng
  refine z_callV X 179 (rm := rmN 289) (As := [.int (Int32.ofInt (sc xs (i + 1)))]) (st := []) rfl rfl (by decide) rfl (by rw [E.1, E.2.1, E.2.2.1]; exact k_fit G Is6 (by first | exact ⟨sr8.1, sr8.2⟩ | omega)) ⟨by rw [E.2.2.2]; exact (show 8 + 1 ≤ 2048 from oq_5bf2829b), by rw [E.2.2.2]; exact (show 8 + (7 + 11) + 145 ≤ 84000 from oq_8fd475f0), by rw [E.2.2.2]; exact (show (ce + 1) + 0 ≤ 601024 by omega), by rw [E.2.2.2]; exact (show (sl + 6) + 0 ≤ 7293034 by omega)⟩ (Nat.le_of_ble_eq_true rfl) (fun vv s9 hq => ?_) (fun ee s9 hq => ?_)
  rotate_left
  · obtain ⟨Is9, Fs9, e10, hv, hrs9, hps9⟩ := hq; cases hv
  obtain ⟨Is9, Fs9, e10, hv, hrs9, hps9⟩ := hq
  cases hv
  have Gs9 := fm_tq Gs6 Fs9 rfl rfl
  have JRLx_s9 : RLx s9 := RLx_fm Fs9 (by decide) JRLx_s6
  have JREQ_s9 : REQ 39 234 28 s9 := REQ_fm Fs9 (by decide) JREQ_s6
  have ws9_28 : iI s9 28 = iI s6 28 := fm_iq Fs9 rfl
  have ws9_97 : iI s9 97 = iI s6 97 := fm_iq Fs9 rfl
  have ws9_12 : iI s9 12 = iI s6 12 := fm_iq Fs9 rfl
  have ws9_89 : iI s9 89 = iI s6 89 := fm_iq Fs9 rfl
  have wos9 : iO s9 = iO s6 := fm_o Fs9 (by decide)
  show WS k 1662 [(5, .int (Int32.ofInt e7)), (0, .ref q1), (1, .ref (A 0)), (2, .ref (A 179)), (3, .ref (A 517)), (4, .int (Int32.ofInt i))] [.int (Int32.ofInt e10)] (Wd A dT s9) (ce + 1) (sl + 6)
  refine z_store X (lv' := [(6, .int (Int32.ofInt e10)), (5, .int (Int32.ofInt e7)), (0, .ref q1), (1, .ref (A 0)), (2, .ref (A 179)), (3, .ref (A 517)), (4, .int (Int32.ofInt i))]) rfl (by decide) (fun _ h => h) (z_goto X (t := 1866) rfl rfl (w_widen (ce' := ce + 29) (sl' := sl + 222) (by first | exact Nat.le_add_right _ _ | exact Nat.add_le_add_left (by decide) _ | omega) (by first | exact Nat.le_add_right _ _ | exact Nat.add_le_add_left (by decide) _ | omega) ?_))
  exact WS_lv (lv := [(0, .ref q1), (1, .ref (A 0)), (2, .ref (A 179)), (3, .ref (A 517)), (4, .int (Int32.ofInt i))]) (List.forall_mem_cons.mpr ⟨(List.Mem.tail _ (List.Mem.tail _ (List.Mem.head _))), (List.forall_mem_cons.mpr ⟨(List.Mem.tail _ (List.Mem.tail _ (List.Mem.tail _ (List.Mem.head _)))), (List.forall_mem_cons.mpr ⟨(List.Mem.tail _ (List.Mem.tail _ (List.Mem.tail _ (List.Mem.tail _ (List.Mem.head _))))), (List.forall_mem_cons.mpr ⟨(List.Mem.tail _ (List.Mem.tail _ (List.Mem.tail _ (List.Mem.tail _ (List.Mem.tail _ (List.Mem.head _)))))), (List.forall_mem_cons.mpr ⟨(List.Mem.tail _ (List.Mem.tail _ (List.Mem.tail _ (List.Mem.tail _ (List.Mem.tail _ (List.Mem.tail _ (List.Mem.head _))))))), (fun q h => absurd h List.not_mem_nil)⟩)⟩)⟩)⟩)⟩) (hk A _ Is9 JRLx_s9 JREQ_s9 (by first | exact oq_f34933ba ws9_89 ws6_89 p1 b4.1 | omega) (by first | exact oq_d7ce4408 ws9_12 ws6_12 p2 | omega) (by first | exact oq_5bcdc35f ws9_97 ws9_28 ws6_97 ws6_28 p3 | omega))
theorem lc_38 (G : GX l s0 D tys a0 dT) (GR : RS0 s0) (SF : SF0 s0) (GT : TXs0 s0) {k : kx_T} (X : AX k 350 dT) (E : kL k = l ∧ kS0 k = s0 ∧ kD k = D ∧ kR k = room_1) {q1 L : Nat} {xs : Nat → Int32} (S : SX k q1 L xs) (hL : L ≤ 3072) (I : Bd s) (jR : RLx s) (jREQ : REQ 39 234 28 s) (p1 : iI s 89 = 1) (p2 : iI s 12 ≤ 8) (p3 : iI s 28 = iI s 97) {i : Int} (hi : 0 ≤ i ∧ i + 6 ≤ (L : Int)) {ce sl : Nat} (hce : ce + 29 ≤ 601024) (hsl : sl + 222 ≤ 7293034) (hk : ∀ (A : Nat → Nat) (t : PS), Bd t → RLx t → REQ 39 234 28 t → iI t 89 = 1 → iI t 12 ≤ 8 → iI t 28 = iI t 97 → WS k 1866 [(0, .ref q1), (1, .ref (A 0)), (2, .ref (A 179)), (3, .ref (A 517)), (4, .int (Int32.ofInt i))] [] (Wd A dT t) (ce + 29) (sl + 222)) : WS k 1667 [(0, .ref q1), (1, .ref (A 0)), (2, .ref (A 179)), (3, .ref (A 517)), (4, .int (Int32.ofInt i))] [] (Wd A dT s) ce sl := by
  have F : Fm [22, 23, 73, 77, 75, 78, 79, 80, 81] [33, 26, 27, 28, 29, 30, 31, 32, 20, 34, 1460, 202, 204, 205, 206, 207, 208, 209, 210, 211, 212, 213, 214, 215, 216, 217, 218, 219, 220, 221, 222, 223, 224, 225, 226, 227, 203, 161, 230] s s := fm_rf _ _ s
  have b1 := bi_28 I
  have b2 := bi_97 I
  have b3 := bi_12 I
  have b4 := bi_89 I
  refine z_aload_n X (x := A 0) rfl (List.Mem.tail _ (List.Mem.head _)) (z_aload_n X (x := q1) rfl (List.Mem.head _) (z_load X (x := i) rfl (List.Mem.tail _ (List.Mem.tail _ (List.Mem.tail _ (List.Mem.tail _ (List.Mem.head _))))) (z_const X rfl (z_add X rfl (z_sld X S hL rfl (show 0 ≤ (i + 1) ∧ (i + 1) < (L : Int) by first | exact sx_in hi (by decide) | omega) ?_)))))
  have sr5 : rng (sc xs (i + 1)) := sc_rng
  refine z_aload_n X (x := q1) rfl (List.Mem.head _) (z_load X (x := i) rfl (List.Mem.tail _ (List.Mem.tail _ (List.Mem.tail _ (List.Mem.tail _ (List.Mem.head _))))) (z_const X rfl (z_add X rfl (z_sld X S hL rfl (show 0 ≤ (i + 2) ∧ (i + 2) < (L : Int) by first | exact sx_in hi (by decide) | omega) ?_))))
  have sr6 : rng (sc xs (i + 2)) := sc_rng
  refine z_aload_n X (x := q1) rfl (List.Mem.head _) (z_load X (x := i) rfl (List.Mem.tail _ (List.Mem.tail _ (List.Mem.tail _ (List.Mem.tail _ (List.Mem.head _))))) (z_const X rfl (z_add X rfl (z_sld X S hL rfl (show 0 ≤ (i + 3) ∧ (i + 3) < (L : Int) by first | exact sx_in hi (by decide) | omega) ?_))))
  have sr7 : rng (sc xs (i + 3)) := sc_rng
  refine z_aload_n X (x := q1) rfl (List.Mem.head _) (z_load X (x := i) rfl (List.Mem.tail _ (List.Mem.tail _ (List.Mem.tail _ (List.Mem.tail _ (List.Mem.head _))))) (z_const X rfl (z_add X rfl (z_sld X S hL rfl (show 0 ≤ (i + 4) ∧ (i + 4) < (L : Int) by first | exact sx_in hi (by decide) | omega) ?_))))
  have sr8 : rng (sc xs (i + 4)) := sc_rng
  have N9 : ∀ e10 : Int, ((((sc xs (i + 4)) = 0) ∧ e10 = 0) ∨ (((sc xs (i + 4)) ≠ 0) ∧ e10 = 1)) → WS k 1700 [(0, .ref q1), (1, .ref (A 0)), (2, .ref (A 179)), (3, .ref (A 517)), (4, .int (Int32.ofInt i))] [.int (Int32.ofInt e10), .int (Int32.ofInt (sc xs (i + 3))), .int (Int32.ofInt (sc xs (i + 2))), .int (Int32.ofInt (sc xs (i + 1))), .ref (A 0)] (Wd A dT s) ce sl := by
    intro e10 he10
    have re10 : 0 ≤ e10 ∧ e10 ≤ 1 := by first | (clear he10; omega) | omega
    refine z_aload_n X (x := A 517) rfl (List.Mem.tail _ (List.Mem.tail _ (List.Mem.tail _ (List.Mem.head _)))) (z_callL X (rm := rmN 347) (As := [.ref (A 0), .int (Int32.ofInt (sc xs (i + 1))), .int (Int32.ofInt (sc xs (i + 2))), .int (Int32.ofInt (sc xs (i + 3))), .int (Int32.ofInt e10), .ref (A 517)]) (st := []) rfl (by decide) rfl (by rw [E.1, E.2.1, E.2.2.1]; exact lw_lead G I (by first | (clear he10; omega) | omega) (by first | (clear he10; omega) | omega) (by first | (clear he10; omega) | omega) (by first | (clear he10; omega) | omega)) ⟨by rw [E.2.2.2]; exact (show 11 + 1 ≤ 2048 by decide), by rw [E.2.2.2]; exact (show 8 + (7 + 11) + 230 ≤ 84000 by decide), by rw [E.2.2.2]; exact (show ce + 2 ≤ 601024 by first | exact rmo_1 hce (by decide) | exact rmo_2 hce (by decide) | omega), by rw [E.2.2.2]; exact (show sl + 12 ≤ 7293034 by first | exact rmo_1 hsl (by decide) | exact rmo_2 hsl (by decide) | omega)⟩ (Nat.le_of_ble_eq_true rfl) (fun vv A s11 hA2 hq => ?_) (fun ee A s11 hA2 hq => ?_))
    rotate_left
    · obtain ⟨Is11, Fs11, e12, hv, hrs11, hps11⟩ := hq; cases hv
    obtain ⟨Is11, Fs11, e12, hv, hrs11, hps11⟩ := hq
    cases hv
    rw [← hA2 0 (by decide)]
    rw [← hA2 179 (by decide)]
    rw [← hA2 517 (by decide)]
    have Gs11 := fm_tq F Fs11 rfl rfl
    have JRLx_s11 : RLx s11 := RLx_fm Fs11 (by decide) jR
    have JREQ_s11 : REQ 39 234 28 s11 := REQ_fm Fs11 (by decide) jREQ
    have ws11_28 : iI s11 28 = iI s 28 := fm_iq Fs11 rfl
    have ws11_97 : iI s11 97 = iI s 97 := fm_iq Fs11 rfl
    have ws11_12 : iI s11 12 = iI s 12 := fm_iq Fs11 rfl
    have ws11_89 : iI s11 89 = iI s 89 := fm_iq Fs11 rfl
    show WS k 1704 [(0, .ref q1), (1, .ref (A 0)), (2, .ref (A 179)), (3, .ref (A 517)), (4, .int (Int32.ofInt i))] [.int (Int32.ofInt e12)] (Wd A dT s11) (ce + 2) (sl + 12)
    refine z_store X (lv' := [(5, .int (Int32.ofInt e12)), (0, .ref q1), (1, .ref (A 0)), (2, .ref (A 179)), (3, .ref (A 517)), (4, .int (Int32.ofInt i))]) rfl (by decide) (fun _ h => h) (z_aload_n X (x := A 179) rfl (List.Mem.tail _ (List.Mem.tail _ (List.Mem.tail _ (List.Mem.head _)))) (z_aload_n X (x := q1) rfl (List.Mem.tail _ (List.Mem.head _)) (z_load X (x := i) rfl (List.Mem.tail _ (List.Mem.tail _ (List.Mem.tail _ (List.Mem.tail _ (List.Mem.tail _ (List.Mem.head _)))))) (z_const X rfl (z_add X rfl (z_sld X S hL rfl (show 0 ≤ (i + 1) ∧ (i + 1) < (L : Int) by first | exact sx_in hi (by decide) | omega) ?_))))))
    have sr13 : rng (sc xs (i + 1)) := sc_rng
    refine z_aload_n X (x := q1) rfl (List.Mem.tail _ (List.Mem.head _)) (z_load X (x := i) rfl (List.Mem.tail _ (List.Mem.tail _ (List.Mem.tail _ (List.Mem.tail _ (List.Mem.tail _ (List.Mem.head _)))))) (z_const X rfl (z_add X rfl (z_sld X S hL rfl (show 0 ≤ (i + 2) ∧ (i + 2) < (L : Int) by first | exact sx_in hi (by decide) | omega) ?_))))
    have sr14 : rng (sc xs (i + 2)) := sc_rng
    refine z_aload_n X (x := q1) rfl (List.Mem.tail _ (List.Mem.head _)) (z_load X (x := i) rfl (List.Mem.tail _ (List.Mem.tail _ (List.Mem.tail _ (List.Mem.tail _ (List.Mem.tail _ (List.Mem.head _)))))) (z_const X rfl (z_add X rfl (z_sld X S hL rfl (show 0 ≤ (i + 3) ∧ (i + 3) < (L : Int) by first | exact sx_in hi (by decide) | omega) ?_))))
    have sr15 : rng (sc xs (i + 3)) := sc_rng
    refine z_aload_n X (x := q1) rfl (List.Mem.tail _ (List.Mem.head _)) (z_load X (x := i) rfl (List.Mem.tail _ (List.Mem.tail _ (List.Mem.tail _ (List.Mem.tail _ (List.Mem.tail _ (List.Mem.head _)))))) (z_const X rfl (z_add X rfl (z_sld X S hL rfl (show 0 ≤ (i + 4) ∧ (i + 4) < (L : Int) by first | exact sx_in hi (by decide) | omega) ?_))))
    have sr16 : rng (sc xs (i + 4)) := sc_rng
    have N17 : ∀ e18 : Int, ((((sc xs (i + 4)) = 0) ∧ e18 = 0) ∨ (((sc xs (i + 4)) ≠ 0) ∧ e18 = 1)) → WS k 1739 [(5, .int (Int32.ofInt e12)), (0, .ref q1), (1, .ref (A 0)), (2, .ref (A 179)), (3, .ref (A 517)), (4, .int (Int32.ofInt i))] [.int (Int32.ofInt e18), .int (Int32.ofInt (sc xs (i + 3))), .int (Int32.ofInt (sc xs (i + 2))), .int (Int32.ofInt (sc xs (i + 1))), .ref (A 179)] (Wd A dT s11) (ce + 2) (sl + 12) := by
      intro e18 he18
      have re18 : 0 ≤ e18 ∧ e18 ≤ 1 := by first | (clear he18 he10; omega) | (clear he10; omega) | omega
      refine z_callV X 179 (rm := rmN 290) (As := [.int (Int32.ofInt (sc xs (i + 1))), .int (Int32.ofInt (sc xs (i + 2))), .int (Int32.ofInt (sc xs (i + 3))), .int (Int32.ofInt e18)]) (st := []) rfl rfl (by decide) rfl (by rw [E.1, E.2.1, E.2.2.1]; exact k_lead G Is11 JRLx_s11 (by first | exact ⟨sr13.1, sr13.2⟩ | omega) (by first | exact ⟨sr14.1, sr14.2⟩ | omega) (by first | exact ⟨sr15.1, sr15.2⟩ | omega) (by first | exact oq_31e518ae re18.2 re18.1 | omega)) ⟨by rw [E.2.2.2]; exact (show 37 + 1 ≤ 2048 from oq_2596b3cb), by rw [E.2.2.2]; exact (show 8 + (10 + 11) + 1578 ≤ 84000 from oq_d572abc1), by rw [E.2.2.2]; exact (show (ce + 2) + 1 ≤ 601024 by first | (clear he18 he10; omega) | (clear he10; omega) | omega), by rw [E.2.2.2]; exact (show (sl + 12) + 12 ≤ 7293034 by first | (clear he18 he10; omega) | (clear he10; omega) | omega)⟩ (Nat.le_of_ble_eq_true rfl) (fun vv s19 hq => ?_) (fun ee s19 hq => ?_)
      rotate_left
      · obtain ⟨Is19, Fs19, JRLx_s19, e20, hv, hrs19, hps19⟩ := hq; cases hv
      obtain ⟨Is19, Fs19, JRLx_s19, e20, hv, hrs19, hps19⟩ := hq
      cases hv
      have Gs19 := fm_tq Gs11 Fs19 rfl rfl
      have JRLx_s19 : RLx s19 := RLx_fm Fs19 (by decide) JRLx_s11
      have JREQ_s19 : REQ 39 234 28 s19 := REQ_fm Fs19 (by decide) JREQ_s11
      have ws19_28 : iI s19 28 = iI s11 28 := fm_iq Fs19 rfl
      have ws19_97 : iI s19 97 = iI s11 97 := fm_iq Fs19 rfl
      have ws19_12 : iI s19 12 = iI s11 12 := fm_iq Fs19 rfl
      have ws19_89 : iI s19 89 = iI s11 89 := fm_iq Fs19 rfl
      have wos19 : iO s19 = iO s11 := fm_o Fs19 (by decide)
      show WS k 1742 [(5, .int (Int32.ofInt e12)), (0, .ref q1), (1, .ref (A 0)), (2, .ref (A 179)), (3, .ref (A 517)), (4, .int (Int32.ofInt i))] [.int (Int32.ofInt e20)] (Wd A dT s19) ((ce + 2) + 1) ((sl + 12) + 12)
      refine z_store X (lv' := [(6, .int (Int32.ofInt e20)), (5, .int (Int32.ofInt e12)), (0, .ref q1), (1, .ref (A 0)), (2, .ref (A 179)), (3, .ref (A 517)), (4, .int (Int32.ofInt i))]) rfl (by decide) (fun _ h => h) (z_goto X (t := 1866) rfl rfl (w_widen (ce' := ce + 29) (sl' := sl + 222) (by first | exact Nat.le_add_right _ _ | exact Nat.add_le_add_left (by decide) _ | omega) (by first | exact Nat.le_add_right _ _ | exact Nat.add_le_add_left (by decide) _ | omega) ?_))
      exact WS_lv (lv := [(0, .ref q1), (1, .ref (A 0)), (2, .ref (A 179)), (3, .ref (A 517)), (4, .int (Int32.ofInt i))]) (List.forall_mem_cons.mpr ⟨(List.Mem.tail _ (List.Mem.tail _ (List.Mem.head _))), (List.forall_mem_cons.mpr ⟨(List.Mem.tail _ (List.Mem.tail _ (List.Mem.tail _ (List.Mem.head _)))), (List.forall_mem_cons.mpr ⟨(List.Mem.tail _ (List.Mem.tail _ (List.Mem.tail _ (List.Mem.tail _ (List.Mem.head _))))), (List.forall_mem_cons.mpr ⟨(List.Mem.tail _ (List.Mem.tail _ (List.Mem.tail _ (List.Mem.tail _ (List.Mem.tail _ (List.Mem.head _)))))), (List.forall_mem_cons.mpr ⟨(List.Mem.tail _ (List.Mem.tail _ (List.Mem.tail _ (List.Mem.tail _ (List.Mem.tail _ (List.Mem.tail _ (List.Mem.head _))))))), (fun q h => absurd h List.not_mem_nil)⟩)⟩)⟩)⟩)⟩) (hk A _ Is19 JRLx_s19 JREQ_s19 (by first | exact oq_f34933ba ws19_89 ws11_89 p1 b4.1 | omega) (by first | exact oq_d7ce4408 ws19_12 ws11_12 p2 | omega) (by first | exact oq_5bcdc35f ws19_97 ws19_28 ws11_97 ws11_28 p3 | omega))
    refine z_if_eq X (t := 1738) rfl rfl ⟨by first | exact sr16.1 | omega, by first | exact sr16.2 | omega⟩ (fun g21 => ?_) (fun g21 => ?_)
    ·
      exact z_const X rfl (N17 _ (Or.inl ⟨g21, rfl⟩))
    ·
      exact z_const X rfl (z_goto X (t := 1739) rfl rfl (N17 _ (Or.inr (⟨g21, rfl⟩))))
  refine z_if_eq X (t := 1699) rfl rfl ⟨by first | exact sr8.1 | omega, by first | exact sr8.2 | omega⟩ (fun g22 => ?_) (fun g22 => ?_)
  ·
    exact z_const X rfl (N9 _ (Or.inl ⟨g22, rfl⟩))
  ·
    exact z_const X rfl (z_goto X (t := 1700) rfl rfl (N9 _ (Or.inr (⟨g22, rfl⟩))))
theorem lc_39 (G : GX l s0 D tys a0 dT) (GR : RS0 s0) (SF : SF0 s0) (GT : TXs0 s0) {k : kx_T} (X : AX k 350 dT) (E : kL k = l ∧ kS0 k = s0 ∧ kD k = D ∧ kR k = room_1) {q1 L : Nat} {xs : Nat → Int32} (S : SX k q1 L xs) (hL : L ≤ 3072) (I : Bd s) (jR : RLx s) (jREQ : REQ 39 234 28 s) (p1 : iI s 89 = 1) (p2 : iI s 12 ≤ 8) (p3 : iI s 28 = iI s 97) {i : Int} (hi : 0 ≤ i ∧ i + 6 ≤ (L : Int)) {ce sl : Nat} (hce : ce + 29 ≤ 601024) (hsl : sl + 222 ≤ 7293034) (hk : ∀ (A : Nat → Nat) (t : PS), Bd t → RLx t → REQ 39 234 28 t → iI t 89 = 1 → iI t 12 ≤ 8 → iI t 28 = iI t 97 → WS k 1866 [(0, .ref q1), (1, .ref (A 0)), (2, .ref (A 179)), (3, .ref (A 517)), (4, .int (Int32.ofInt i))] [] (Wd A dT t) (ce + 29) (sl + 222)) : WS k 1747 [(0, .ref q1), (1, .ref (A 0)), (2, .ref (A 179)), (3, .ref (A 517)), (4, .int (Int32.ofInt i))] [] (Wd A dT s) ce sl := by
  have F : Fm [22, 23, 24, 73, 77, 75, 78, 79, 80, 81] [33, 26, 27, 28, 29, 30, 31, 32, 20, 36, 37, 35, 21, 1022, 1023, 1460, 202, 204, 205, 206, 207, 208, 209, 210, 211, 212, 213, 214, 215, 216, 217, 218, 219, 220, 221, 222, 223, 224, 225, 226, 227, 203, 161, 230, 233, 228] s s := fm_rf _ _ s
  have b1 := bi_28 I
  have b2 := bi_97 I
  have b3 := bi_12 I
  have b4 := bi_89 I
  refine z_aload_n X (x := A 0) rfl (List.Mem.tail _ (List.Mem.head _)) (z_aload_n X (x := q1) rfl (List.Mem.head _) (z_load X (x := i) rfl (List.Mem.tail _ (List.Mem.tail _ (List.Mem.tail _ (List.Mem.tail _ (List.Mem.head _))))) (z_const X rfl (z_add X rfl (z_sld X S hL rfl (show 0 ≤ (i + 1) ∧ (i + 1) < (L : Int) by first | exact sx_in hi (by decide) | omega) ?_)))))
  have sr5 : rng (sc xs (i + 1)) := sc_rng
  refine z_aload_n X (x := q1) rfl (List.Mem.head _) (z_load X (x := i) rfl (List.Mem.tail _ (List.Mem.tail _ (List.Mem.tail _ (List.Mem.tail _ (List.Mem.head _))))) (z_const X rfl (z_add X rfl (z_sld X S hL rfl (show 0 ≤ (i + 2) ∧ (i + 2) < (L : Int) by first | exact sx_in hi (by decide) | omega) ?_))))
  have sr6 : rng (sc xs (i + 2)) := sc_rng
  refine z_aload_n X (x := A 517) rfl (List.Mem.tail _ (List.Mem.tail _ (List.Mem.tail _ (List.Mem.head _)))) (z_callL X (rm := rmN 348) (As := [.ref (A 0), .int (Int32.ofInt (sc xs (i + 1))), .int (Int32.ofInt (sc xs (i + 2))), .ref (A 517)]) (st := []) rfl (by decide) rfl (by rw [E.1, E.2.1, E.2.2.1]; exact lw_worth G I (by omega) (by omega)) ⟨by rw [E.2.2.2]; exact (show 13 + 1 ≤ 2048 by decide), by rw [E.2.2.2]; exact (show 8 + (5 + 11) + 262 ≤ 84000 by decide), by rw [E.2.2.2]; exact (show ce + 3 ≤ 601024 by first | exact rmo_1 hce (by decide) | exact rmo_2 hce (by decide) | omega), by rw [E.2.2.2]; exact (show sl + 18 ≤ 7293034 by first | exact rmo_1 hsl (by decide) | exact rmo_2 hsl (by decide) | omega)⟩ (Nat.le_of_ble_eq_true rfl) (fun vv A s7 hA2 hq => ?_) (fun ee A s7 hA2 hq => ?_))
  rotate_left
  · obtain ⟨Is7, Fs7, e8, hv, hrs7, hps7⟩ := hq; cases hv
  obtain ⟨Is7, Fs7, e8, hv, hrs7, hps7⟩ := hq
  cases hv
  rw [← hA2 0 (by decide)]
  rw [← hA2 179 (by decide)]
  rw [← hA2 517 (by decide)]
  have Gs7 := fm_tq F Fs7 rfl rfl
  have JRLx_s7 : RLx s7 := RLx_fm Fs7 (by decide) jR
  have JREQ_s7 : REQ 39 234 28 s7 := REQ_fm Fs7 (by decide) jREQ
  have ws7_28 : iI s7 28 = iI s 28 := fm_iq Fs7 rfl
  have ws7_97 : iI s7 97 = iI s 97 := fm_iq Fs7 rfl
  have ws7_12 : iI s7 12 = iI s 12 := fm_iq Fs7 rfl
  have ws7_89 : iI s7 89 = iI s 89 := fm_iq Fs7 rfl
  show WS k 1764 [(0, .ref q1), (1, .ref (A 0)), (2, .ref (A 179)), (3, .ref (A 517)), (4, .int (Int32.ofInt i))] [.int (Int32.ofInt e8)] (Wd A dT s7) (ce + 3) (sl + 18)
  refine z_store X (lv' := [(5, .int (Int32.ofInt e8)), (0, .ref q1), (1, .ref (A 0)), (2, .ref (A 179)), (3, .ref (A 517)), (4, .int (Int32.ofInt i))]) rfl (by decide) (fun _ h => h) (z_aload_n X (x := A 179) rfl (List.Mem.tail _ (List.Mem.tail _ (List.Mem.tail _ (List.Mem.head _)))) (z_aload_n X (x := q1) rfl (List.Mem.tail _ (List.Mem.head _)) (z_load X (x := i) rfl (List.Mem.tail _ (List.Mem.tail _ (List.Mem.tail _ (List.Mem.tail _ (List.Mem.tail _ (List.Mem.head _)))))) (z_const X rfl (z_add X rfl (z_sld X S hL rfl (show 0 ≤ (i + 1) ∧ (i + 1) < (L : Int) by first | exact sx_in hi (by decide) | omega) ?_))))))
  have sr9 : rng (sc xs (i + 1)) := sc_rng
  refine z_aload_n X (x := q1) rfl (List.Mem.tail _ (List.Mem.head _)) (z_load X (x := i) rfl (List.Mem.tail _ (List.Mem.tail _ (List.Mem.tail _ (List.Mem.tail _ (List.Mem.tail _ (List.Mem.head _)))))) (z_const X rfl (z_add X rfl (z_sld X S hL rfl (show 0 ≤ (i + 2) ∧ (i + 2) < (L : Int) by first | exact sx_in hi (by decide) | omega) ?_))))
  have sr10 : rng (sc xs (i + 2)) := sc_rng
  refine z_callV X 179 (rm := rmN 291) (As := [.int (Int32.ofInt (sc xs (i + 1))), .int (Int32.ofInt (sc xs (i + 2)))]) (st := []) rfl rfl (by decide) rfl (by rw [E.1, E.2.1, E.2.2.1]; exact k_worth G Is7 JRLx_s7 (by first | exact ⟨sr9.1, sr9.2⟩ | omega) (by first | exact ⟨sr10.1, sr10.2⟩ | omega)) ⟨by rw [E.2.2.2]; exact (show 41 + 1 ≤ 2048 from oq_2c2f0271), by rw [E.2.2.2]; exact (show 8 + (6 + 11) + 1663 ≤ 84000 from oq_b102b2ee), by rw [E.2.2.2]; exact (show (ce + 3) + 0 ≤ 601024 by omega), by rw [E.2.2.2]; exact (show (sl + 18) + 0 ≤ 7293034 by omega)⟩ (Nat.le_of_ble_eq_true rfl) (fun vv s11 hq => ?_) (fun ee s11 hq => ?_)
  rotate_left
  · obtain ⟨Is11, Fs11, JRLx_s11, e12, hv, hrs11, hps11⟩ := hq; cases hv
  obtain ⟨Is11, Fs11, JRLx_s11, e12, hv, hrs11, hps11⟩ := hq
  cases hv
  have Gs11 := fm_tq Gs7 Fs11 rfl rfl
  have JRLx_s11 : RLx s11 := RLx_fm Fs11 (by decide) JRLx_s7
  have JREQ_s11 : REQ 39 234 28 s11 := REQ_fm Fs11 (by decide) JREQ_s7
  have ws11_28 : iI s11 28 = iI s7 28 := fm_iq Fs11 rfl
  have ws11_97 : iI s11 97 = iI s7 97 := fm_iq Fs11 rfl
  have ws11_12 : iI s11 12 = iI s7 12 := fm_iq Fs11 rfl
  have ws11_89 : iI s11 89 = iI s7 89 := fm_iq Fs11 rfl
  have wos11 : iO s11 = iO s7 := fm_o Fs11 (by decide)
  show WS k 1782 [(5, .int (Int32.ofInt e8)), (0, .ref q1), (1, .ref (A 0)), (2, .ref (A 179)), (3, .ref (A 517)), (4, .int (Int32.ofInt i))] [.int (Int32.ofInt e12)] (Wd A dT s11) (ce + 3) (sl + 18)
  refine z_store X (lv' := [(6, .int (Int32.ofInt e12)), (5, .int (Int32.ofInt e8)), (0, .ref q1), (1, .ref (A 0)), (2, .ref (A 179)), (3, .ref (A 517)), (4, .int (Int32.ofInt i))]) rfl (by decide) (fun _ h => h) (z_goto X (t := 1866) rfl rfl (w_widen (ce' := ce + 29) (sl' := sl + 222) (by first | exact Nat.le_add_right _ _ | exact Nat.add_le_add_left (by decide) _ | omega) (by first | exact Nat.le_add_right _ _ | exact Nat.add_le_add_left (by decide) _ | omega) ?_))
  exact WS_lv (lv := [(0, .ref q1), (1, .ref (A 0)), (2, .ref (A 179)), (3, .ref (A 517)), (4, .int (Int32.ofInt i))]) (List.forall_mem_cons.mpr ⟨(List.Mem.tail _ (List.Mem.tail _ (List.Mem.head _))), (List.forall_mem_cons.mpr ⟨(List.Mem.tail _ (List.Mem.tail _ (List.Mem.tail _ (List.Mem.head _)))), (List.forall_mem_cons.mpr ⟨(List.Mem.tail _ (List.Mem.tail _ (List.Mem.tail _ (List.Mem.tail _ (List.Mem.head _))))), (List.forall_mem_cons.mpr ⟨(List.Mem.tail _ (List.Mem.tail _ (List.Mem.tail _ (List.Mem.tail _ (List.Mem.tail _ (List.Mem.head _)))))), (List.forall_mem_cons.mpr ⟨(List.Mem.tail _ (List.Mem.tail _ (List.Mem.tail _ (List.Mem.tail _ (List.Mem.tail _ (List.Mem.tail _ (List.Mem.head _))))))), (fun q h => absurd h List.not_mem_nil)⟩)⟩)⟩)⟩)⟩) (hk A _ Is11 JRLx_s11 JREQ_s11 (by first | exact oq_f34933ba ws11_89 ws7_89 p1 b4.1 | omega) (by first | exact oq_d7ce4408 ws11_12 ws7_12 p2 | omega) (by first | exact oq_5bcdc35f ws11_97 ws11_28 ws7_97 ws7_28 p3 | omega))
theorem lc_40 (G : GX l s0 D tys a0 dT) (GR : RS0 s0) (SF : SF0 s0) (GT : TXs0 s0) {k : kx_T} (X : AX k 350 dT) (E : kL k = l ∧ kS0 k = s0 ∧ kD k = D ∧ kR k = room_1) {q1 L : Nat} {xs : Nat → Int32} (S : SX k q1 L xs) (hL : L ≤ 3072) (I : Bd s) (jR : RLx s) (jREQ : REQ 39 234 28 s) (p1 : iI s 89 = 1) (p2 : iI s 12 ≤ 8) (p3 : iI s 28 = iI s 97) {i : Int} (hi : 0 ≤ i ∧ i + 6 ≤ (L : Int)) {ce sl : Nat} (hce : ce + 29 ≤ 601024) (hsl : sl + 222 ≤ 7293034) (hk : ∀ (A : Nat → Nat) (t : PS), Bd t → RLx t → REQ 39 234 28 t → iI t 89 = 1 → iI t 12 ≤ 8 → iI t 28 = iI t 97 → WS k 1866 [(0, .ref q1), (1, .ref (A 0)), (2, .ref (A 179)), (3, .ref (A 517)), (4, .int (Int32.ofInt i))] [] (Wd A dT t) (ce + 29) (sl + 222)) : WS k 1787 [(0, .ref q1), (1, .ref (A 0)), (2, .ref (A 179)), (3, .ref (A 517)), (4, .int (Int32.ofInt i))] [] (Wd A dT s) ce sl := by
  have F : Fm [73] [1460] s s := fm_rf _ _ s
  have b1 := bi_28 I
  have b2 := bi_97 I
  have b3 := bi_12 I
  have b4 := bi_89 I
  refine z_aload_n X (x := A 0) rfl (List.Mem.tail _ (List.Mem.head _)) (z_aload_n X (x := q1) rfl (List.Mem.head _) (z_load X (x := i) rfl (List.Mem.tail _ (List.Mem.tail _ (List.Mem.tail _ (List.Mem.tail _ (List.Mem.head _))))) (z_const X rfl (z_add X rfl (z_sld X S hL rfl (show 0 ≤ (i + 1) ∧ (i + 1) < (L : Int) by first | exact sx_in hi (by decide) | omega) ?_)))))
  have sr5 : rng (sc xs (i + 1)) := sc_rng
  refine z_aload_n X (x := A 517) rfl (List.Mem.tail _ (List.Mem.tail _ (List.Mem.tail _ (List.Mem.head _)))) (z_callL X (rm := rmN 349) (As := [.ref (A 0), .int (Int32.ofInt (sc xs (i + 1))), .ref (A 517)]) (st := []) rfl (by decide) rfl (by rw [E.1, E.2.1, E.2.2.1]; exact lw_quiet G I (by omega)) ⟨by rw [E.2.2.2]; exact (show 9 + 1 ≤ 2048 by decide), by rw [E.2.2.2]; exact (show 8 + (4 + 11) + 166 ≤ 84000 by decide), by rw [E.2.2.2]; exact (show ce + 1 ≤ 601024 by first | exact rmo_1 hce (by decide) | exact rmo_2 hce (by decide) | omega), by rw [E.2.2.2]; exact (show sl + 6 ≤ 7293034 by first | exact rmo_1 hsl (by decide) | exact rmo_2 hsl (by decide) | omega)⟩ (Nat.le_of_ble_eq_true rfl) (fun vv A s6 hA2 hq => ?_) (fun ee A s6 hA2 hq => ?_))
  rotate_left
  · obtain ⟨Is6, Fs6, e7, hv, hrs6, hps6⟩ := hq; cases hv
  obtain ⟨Is6, Fs6, e7, hv, hrs6, hps6⟩ := hq
  cases hv
  rw [← hA2 0 (by decide)]
  rw [← hA2 179 (by decide)]
  rw [← hA2 517 (by decide)]
  have Gs6 := fm_tq F Fs6 rfl rfl
  have JRLx_s6 : RLx s6 := RLx_fm Fs6 (by decide) jR
  have JREQ_s6 : REQ 39 234 28 s6 := REQ_fm Fs6 (by decide) jREQ
  have ws6_28 : iI s6 28 = iI s 28 := fm_iq Fs6 rfl
  have ws6_97 : iI s6 97 = iI s 97 := fm_iq Fs6 rfl
  have ws6_12 : iI s6 12 = iI s 12 := fm_iq Fs6 rfl
  have ws6_89 : iI s6 89 = iI s 89 := fm_iq Fs6 rfl
  show WS k 1798 [(0, .ref q1), (1, .ref (A 0)), (2, .ref (A 179)), (3, .ref (A 517)), (4, .int (Int32.ofInt i))] [.int (Int32.ofInt e7)] (Wd A dT s6) (ce + 1) (sl + 6)
  refine z_store X (lv' := [(5, .int (Int32.ofInt e7)), (0, .ref q1), (1, .ref (A 0)), (2, .ref (A 179)), (3, .ref (A 517)), (4, .int (Int32.ofInt i))]) rfl (by decide) (fun _ h => h) (z_aload_n X (x := A 179) rfl (List.Mem.tail _ (List.Mem.tail _ (List.Mem.tail _ (List.Mem.head _)))) (z_aload_n X (x := q1) rfl (List.Mem.tail _ (List.Mem.head _)) (z_load X (x := i) rfl (List.Mem.tail _ (List.Mem.tail _ (List.Mem.tail _ (List.Mem.tail _ (List.Mem.tail _ (List.Mem.head _)))))) (z_const X rfl (z_add X rfl (z_sld X S hL rfl (show 0 ≤ (i + 1) ∧ (i + 1) < (L : Int) by first | exact sx_in hi (by decide) | omega) ?_))))))
  have sr8 : rng (sc xs (i + 1)) := sc_rng
  refine z_callV X 179 (rm := rmN 292) (As := [.int (Int32.ofInt (sc xs (i + 1)))]) (st := []) rfl rfl (by decide) rfl (by rw [E.1, E.2.1, E.2.2.1]; exact k_quiet G Is6 (by first | exact ⟨sr8.1, sr8.2⟩ | omega)) ⟨by rw [E.2.2.2]; exact (show 7 + 1 ≤ 2048 from oq_4e6106eb), by rw [E.2.2.2]; exact (show 8 + (4 + 11) + 123 ≤ 84000 from oq_24286ecc), by rw [E.2.2.2]; exact (show (ce + 1) + 0 ≤ 601024 by omega), by rw [E.2.2.2]; exact (show (sl + 6) + 0 ≤ 7293034 by omega)⟩ (Nat.le_of_ble_eq_true rfl) (fun vv s9 hq => ?_) (fun ee s9 hq => ?_)
  rotate_left
  · obtain ⟨Is9, Fs9, e10, hv, hrs9, hps9⟩ := hq; cases hv
  obtain ⟨Is9, Fs9, e10, hv, hrs9, hps9⟩ := hq
  cases hv
  have Gs9 := fm_tq Gs6 Fs9 rfl rfl
  have JRLx_s9 : RLx s9 := RLx_fm Fs9 (by decide) JRLx_s6
  have JREQ_s9 : REQ 39 234 28 s9 := REQ_fm Fs9 (by decide) JREQ_s6
  have ws9_28 : iI s9 28 = iI s6 28 := fm_iq Fs9 rfl
  have ws9_97 : iI s9 97 = iI s6 97 := fm_iq Fs9 rfl
  have ws9_12 : iI s9 12 = iI s6 12 := fm_iq Fs9 rfl
  have ws9_89 : iI s9 89 = iI s6 89 := fm_iq Fs9 rfl
  have wos9 : iO s9 = iO s6 := fm_o Fs9 (by decide)
  show WS k 1810 [(5, .int (Int32.ofInt e7)), (0, .ref q1), (1, .ref (A 0)), (2, .ref (A 179)), (3, .ref (A 517)), (4, .int (Int32.ofInt i))] [.int (Int32.ofInt e10)] (Wd A dT s9) (ce + 1) (sl + 6)
  refine z_store X (lv' := [(6, .int (Int32.ofInt e10)), (5, .int (Int32.ofInt e7)), (0, .ref q1), (1, .ref (A 0)), (2, .ref (A 179)), (3, .ref (A 517)), (4, .int (Int32.ofInt i))]) rfl (by decide) (fun _ h => h) (z_goto X (t := 1866) rfl rfl (w_widen (ce' := ce + 29) (sl' := sl + 222) (by first | exact Nat.le_add_right _ _ | exact Nat.add_le_add_left (by decide) _ | omega) (by first | exact Nat.le_add_right _ _ | exact Nat.add_le_add_left (by decide) _ | omega) ?_))
  exact WS_lv (lv := [(0, .ref q1), (1, .ref (A 0)), (2, .ref (A 179)), (3, .ref (A 517)), (4, .int (Int32.ofInt i))]) (List.forall_mem_cons.mpr ⟨(List.Mem.tail _ (List.Mem.tail _ (List.Mem.head _))), (List.forall_mem_cons.mpr ⟨(List.Mem.tail _ (List.Mem.tail _ (List.Mem.tail _ (List.Mem.head _)))), (List.forall_mem_cons.mpr ⟨(List.Mem.tail _ (List.Mem.tail _ (List.Mem.tail _ (List.Mem.tail _ (List.Mem.head _))))), (List.forall_mem_cons.mpr ⟨(List.Mem.tail _ (List.Mem.tail _ (List.Mem.tail _ (List.Mem.tail _ (List.Mem.tail _ (List.Mem.head _)))))), (List.forall_mem_cons.mpr ⟨(List.Mem.tail _ (List.Mem.tail _ (List.Mem.tail _ (List.Mem.tail _ (List.Mem.tail _ (List.Mem.tail _ (List.Mem.head _))))))), (fun q h => absurd h List.not_mem_nil)⟩)⟩)⟩)⟩)⟩) (hk A _ Is9 JRLx_s9 JREQ_s9 (by first | exact oq_f34933ba ws9_89 ws6_89 p1 b4.1 | omega) (by first | exact oq_d7ce4408 ws9_12 ws6_12 p2 | omega) (by first | exact oq_5bcdc35f ws9_97 ws9_28 ws6_97 ws6_28 p3 | omega))
theorem lc_41 (G : GX l s0 D tys a0 dT) (GR : RS0 s0) (SF : SF0 s0) (GT : TXs0 s0) {k : kx_T} (X : AX k 350 dT) (E : kL k = l ∧ kS0 k = s0 ∧ kD k = D ∧ kR k = room_1) {q1 L : Nat} {xs : Nat → Int32} (S : SX k q1 L xs) (hL : L ≤ 3072) (I : Bd s) (jR : RLx s) (jREQ : REQ 39 234 28 s) (p1 : iI s 89 = 1) (p2 : iI s 12 ≤ 8) (p3 : iI s 28 = iI s 97) {i : Int} (hi : 0 ≤ i ∧ i + 6 ≤ (L : Int)) {ce sl : Nat} (hce : ce + 29 ≤ 601024) (hsl : sl + 222 ≤ 7293034) (hk : ∀ (A : Nat → Nat) (t : PS), Bd t → RLx t → REQ 39 234 28 t → iI t 89 = 1 → iI t 12 ≤ 8 → iI t 28 = iI t 97 → WS k 1866 [(0, .ref q1), (1, .ref (A 0)), (2, .ref (A 179)), (3, .ref (A 517)), (4, .int (Int32.ofInt i))] [] (Wd A dT t) (ce + 29) (sl + 222)) : WS k 1815 [(0, .ref q1), (1, .ref (A 0)), (2, .ref (A 179)), (3, .ref (A 517)), (4, .int (Int32.ofInt i))] [] (Wd A dT s) ce sl := by
  have F : Fm [20, 73, 98] [25, 241, 242, 243, 244] s s := fm_rf _ _ s
  have b1 := bi_28 I
  have b2 := bi_97 I
  have b3 := bi_12 I
  have b4 := bi_89 I
  refine z_aload_n X (x := A 0) rfl (List.Mem.tail _ (List.Mem.head _)) (z_callV X 0 (rm := rmN 176) (As := []) (st := []) rfl rfl (by decide) rfl (by rw [E.1, E.2.1, E.2.2.1]; exact cs_mark G I ) ⟨by rw [E.2.2.2]; exact (show 7 + 1 ≤ 2048 from oq_4e6106eb), by rw [E.2.2.2]; exact (show 8 + (1 + 11) + 120 ≤ 84000 from oq_23aa4b49), by rw [E.2.2.2]; exact (show ce + 0 ≤ 601024 by omega), by rw [E.2.2.2]; exact (show sl + 0 ≤ 7293034 by omega)⟩ (Nat.le_of_ble_eq_true rfl) (fun vv s5 hq => ?_) (fun ee s5 hq => ?_))
  rotate_left
  · obtain ⟨Is5, Fs5, e6, hv, hrs5, hps5⟩ := hq; cases hv
  obtain ⟨Is5, Fs5, e6, hv, hrs5, hps5⟩ := hq
  cases hv
  have Gs5 := fm_tq F Fs5 rfl rfl
  have JRLx_s5 : RLx s5 := RLx_fm Fs5 (by decide) jR
  have JREQ_s5 : REQ 39 234 28 s5 := REQ_fm Fs5 (by decide) jREQ
  have ws5_28 : iI s5 28 = iI s 28 := fm_iq Fs5 rfl
  have ws5_97 : iI s5 97 = iI s 97 := fm_iq Fs5 rfl
  have ws5_12 : iI s5 12 = iI s 12 := fm_iq Fs5 rfl
  have ws5_89 : iI s5 89 = iI s 89 := fm_iq Fs5 rfl
  have wos5 : iO s5 = iO s := fm_o Fs5 (by decide)
  show WS k 1819 [(0, .ref q1), (1, .ref (A 0)), (2, .ref (A 179)), (3, .ref (A 517)), (4, .int (Int32.ofInt i))] [.int (Int32.ofInt e6)] (Wd A dT s5) ce sl
  refine w_pop X.1 (ax_d X (show cdA 350 1819 = some (.pop, 1, 0, 0, 0) from rfl)) rfl (z_aload_n X (x := A 179) rfl (List.Mem.tail _ (List.Mem.tail _ (List.Mem.head _))) (z_callV X 179 (rm := rmN 293) (As := []) (st := []) rfl rfl (by decide) rfl (by rw [E.1, E.2.1, E.2.2.1]; exact k_mark G Is5 ) ⟨by rw [E.2.2.2]; exact (show 6 + 1 ≤ 2048 from oq_4d34cb53), by rw [E.2.2.2]; exact (show 8 + (2 + 11) + 100 ≤ 84000 from oq_8731b8c0), by rw [E.2.2.2]; exact (show ce + 0 ≤ 601024 by omega), by rw [E.2.2.2]; exact (show sl + 0 ≤ 7293034 by omega)⟩ (Nat.le_of_ble_eq_true rfl) (fun vv s7 hq => ?_) (fun ee s7 hq => ?_)))
  rotate_left
  · obtain ⟨Is7, Fs7, e8, hv, hrs7, hps7⟩ := hq; cases hv
  obtain ⟨Is7, Fs7, e8, hv, hrs7, hps7⟩ := hq
  cases hv
  have Gs7 := fm_tq Gs5 Fs7 rfl rfl
  have JRLx_s7 : RLx s7 := RLx_fm Fs7 (by decide) JRLx_s5
  have JREQ_s7 : REQ 39 234 28 s7 := REQ_fm Fs7 (by decide) JREQ_s5
  have ws7_28 : iI s7 28 = iI s5 28 := fm_iq Fs7 rfl
  have ws7_97 : iI s7 97 = iI s5 97 := fm_iq Fs7 rfl
  have ws7_12 : iI s7 12 = iI s5 12 := fm_iq Fs7 rfl
  have ws7_89 : iI s7 89 = iI s5 89 := fm_iq Fs7 rfl
  have wos7 : iO s7 = iO s5 := fm_o Fs7 (by decide)
  show WS k 1824 [(0, .ref q1), (1, .ref (A 0)), (2, .ref (A 179)), (3, .ref (A 517)), (4, .int (Int32.ofInt i))] [.int (Int32.ofInt e8)] (Wd A dT s7) ce sl
  refine w_pop X.1 (ax_d X (show cdA 350 1824 = some (.pop, 1, 0, 0, 0) from rfl)) rfl (z_goto X (t := 1866) rfl rfl (w_widen (ce' := ce + 29) (sl' := sl + 222) (by first | exact Nat.le_add_right _ _ | exact Nat.add_le_add_left (by decide) _ | omega) (by first | exact Nat.le_add_right _ _ | exact Nat.add_le_add_left (by decide) _ | omega) ?_))
  exact WS_lv (lv := [(0, .ref q1), (1, .ref (A 0)), (2, .ref (A 179)), (3, .ref (A 517)), (4, .int (Int32.ofInt i))]) (List.forall_mem_cons.mpr ⟨(List.Mem.head _), (List.forall_mem_cons.mpr ⟨(List.Mem.tail _ (List.Mem.head _)), (List.forall_mem_cons.mpr ⟨(List.Mem.tail _ (List.Mem.tail _ (List.Mem.head _))), (List.forall_mem_cons.mpr ⟨(List.Mem.tail _ (List.Mem.tail _ (List.Mem.tail _ (List.Mem.head _)))), (List.forall_mem_cons.mpr ⟨(List.Mem.tail _ (List.Mem.tail _ (List.Mem.tail _ (List.Mem.tail _ (List.Mem.head _))))), (fun q h => absurd h List.not_mem_nil)⟩)⟩)⟩)⟩)⟩) (hk A _ Is7 JRLx_s7 JREQ_s7 (by first | exact oq_f34933ba ws7_89 ws5_89 p1 b4.1 | omega) (by first | exact oq_d7ce4408 ws7_12 ws5_12 p2 | omega) (by first | exact oq_5bcdc35f ws7_97 ws7_28 ws5_97 ws5_28 p3 | omega))
theorem lc_42 (G : GX l s0 D tys a0 dT) (GR : RS0 s0) (SF : SF0 s0) (GT : TXs0 s0) {k : kx_T} (X : AX k 350 dT) (E : kL k = l ∧ kS0 k = s0 ∧ kD k = D ∧ kR k = room_1) {q1 L : Nat} {xs : Nat → Int32} (S : SX k q1 L xs) (hL : L ≤ 3072) (I : Bd s) (jR : RLx s) (jREQ : REQ 39 234 28 s) (p1 : iI s 89 = 1) (p2 : iI s 12 ≤ 8) (p3 : iI s 28 = iI s 97) {i : Int} (hi : 0 ≤ i ∧ i + 6 ≤ (L : Int)) {ce sl : Nat} (hce : ce + 29 ≤ 601024) (hsl : sl + 222 ≤ 7293034) (hk : ∀ (A : Nat → Nat) (t : PS), Bd t → RLx t → REQ 39 234 28 t → iI t 89 = 1 → iI t 12 ≤ 8 → iI t 28 = iI t 97 → WS k 1866 [(0, .ref q1), (1, .ref (A 0)), (2, .ref (A 179)), (3, .ref (A 517)), (4, .int (Int32.ofInt i))] [] (Wd A dT t) (ce + 29) (sl + 222)) : WS k 1828 [(0, .ref q1), (1, .ref (A 0)), (2, .ref (A 179)), (3, .ref (A 517)), (4, .int (Int32.ofInt i))] [] (Wd A dT s) ce sl := by
  have F : Fm [20, 73, 98] [21, 1022, 1023, 228] s s := fm_rf _ _ s
  have b1 := bi_28 I
  have b2 := bi_97 I
  have b3 := bi_12 I
  have b4 := bi_89 I
  refine z_aload_n X (x := A 0) rfl (List.Mem.tail _ (List.Mem.head _)) (z_callV X 0 (rm := rmN 177) (As := []) (st := []) rfl rfl (by decide) rfl (by rw [E.1, E.2.1, E.2.2.1]; exact cs_back G I ) ⟨by rw [E.2.2.2]; exact (show 8 + 1 ≤ 2048 from oq_5bf2829b), by rw [E.2.2.2]; exact (show 8 + (1 + 11) + 147 ≤ 84000 from oq_6fd3db4b), by rw [E.2.2.2]; exact (show ce + 0 ≤ 601024 by omega), by rw [E.2.2.2]; exact (show sl + 0 ≤ 7293034 by omega)⟩ (Nat.le_of_ble_eq_true rfl) (fun vv s5 hq => ?_) (fun ee s5 hq => ?_))
  rotate_left
  · obtain ⟨Is5, Fs5, e6, hv, hrs5, hps5⟩ := hq; cases hv
  obtain ⟨Is5, Fs5, e6, hv, hrs5, hps5⟩ := hq
  cases hv
  have Gs5 := fm_tq F Fs5 rfl rfl
  have JRLx_s5 : RLx s5 := RLx_fm Fs5 (by decide) jR
  have JREQ_s5 : REQ 39 234 28 s5 := REQ_fm Fs5 (by decide) jREQ
  have ws5_28 : iI s5 28 = iI s 28 := fm_iq Fs5 rfl
  have ws5_97 : iI s5 97 = iI s 97 := fm_iq Fs5 rfl
  have ws5_12 : iI s5 12 = iI s 12 := fm_iq Fs5 rfl
  have ws5_89 : iI s5 89 = iI s 89 := fm_iq Fs5 rfl
  have wos5 : iO s5 = iO s := fm_o Fs5 (by decide)
  show WS k 1832 [(0, .ref q1), (1, .ref (A 0)), (2, .ref (A 179)), (3, .ref (A 517)), (4, .int (Int32.ofInt i))] [.int (Int32.ofInt e6)] (Wd A dT s5) ce sl
  refine w_pop X.1 (ax_d X (show cdA 350 1832 = some (.pop, 1, 0, 0, 0) from rfl)) rfl (z_aload_n X (x := A 179) rfl (List.Mem.tail _ (List.Mem.tail _ (List.Mem.head _))) (z_callV X 179 (rm := rmN 294) (As := []) (st := []) rfl rfl (by decide) rfl (by rw [E.1, E.2.1, E.2.2.1]; exact k_back G Is5 ) ⟨by rw [E.2.2.2]; exact (show 6 + 1 ≤ 2048 from oq_4d34cb53), by rw [E.2.2.2]; exact (show 8 + (2 + 11) + 100 ≤ 84000 from oq_8731b8c0), by rw [E.2.2.2]; exact (show ce + 0 ≤ 601024 by omega), by rw [E.2.2.2]; exact (show sl + 0 ≤ 7293034 by omega)⟩ (Nat.le_of_ble_eq_true rfl) (fun vv s7 hq => ?_) (fun ee s7 hq => ?_)))
  rotate_left
  · obtain ⟨Is7, Fs7, e8, hv, hrs7, hps7⟩ := hq; cases hv
  obtain ⟨Is7, Fs7, e8, hv, hrs7, hps7⟩ := hq
  cases hv
  have Gs7 := fm_tq Gs5 Fs7 rfl rfl
  have JRLx_s7 : RLx s7 := RLx_fm Fs7 (by decide) JRLx_s5
  have JREQ_s7 : REQ 39 234 28 s7 := REQ_fm Fs7 (by decide) JREQ_s5
  have ws7_28 : iI s7 28 = iI s5 28 := fm_iq Fs7 rfl
  have ws7_97 : iI s7 97 = iI s5 97 := fm_iq Fs7 rfl
  have ws7_12 : iI s7 12 = iI s5 12 := fm_iq Fs7 rfl
  have ws7_89 : iI s7 89 = iI s5 89 := fm_iq Fs7 rfl
  have wos7 : iO s7 = iO s5 := fm_o Fs7 (by decide)
  show WS k 1837 [(0, .ref q1), (1, .ref (A 0)), (2, .ref (A 179)), (3, .ref (A 517)), (4, .int (Int32.ofInt i))] [.int (Int32.ofInt e8)] (Wd A dT s7) ce sl
  refine w_pop X.1 (ax_d X (show cdA 350 1837 = some (.pop, 1, 0, 0, 0) from rfl)) rfl (z_goto X (t := 1866) rfl rfl (w_widen (ce' := ce + 29) (sl' := sl + 222) (by first | exact Nat.le_add_right _ _ | exact Nat.add_le_add_left (by decide) _ | omega) (by first | exact Nat.le_add_right _ _ | exact Nat.add_le_add_left (by decide) _ | omega) ?_))
  exact WS_lv (lv := [(0, .ref q1), (1, .ref (A 0)), (2, .ref (A 179)), (3, .ref (A 517)), (4, .int (Int32.ofInt i))]) (List.forall_mem_cons.mpr ⟨(List.Mem.head _), (List.forall_mem_cons.mpr ⟨(List.Mem.tail _ (List.Mem.head _)), (List.forall_mem_cons.mpr ⟨(List.Mem.tail _ (List.Mem.tail _ (List.Mem.head _))), (List.forall_mem_cons.mpr ⟨(List.Mem.tail _ (List.Mem.tail _ (List.Mem.tail _ (List.Mem.head _)))), (List.forall_mem_cons.mpr ⟨(List.Mem.tail _ (List.Mem.tail _ (List.Mem.tail _ (List.Mem.tail _ (List.Mem.head _))))), (fun q h => absurd h List.not_mem_nil)⟩)⟩)⟩)⟩)⟩) (hk A _ Is7 JRLx_s7 JREQ_s7 (by first | exact oq_f34933ba ws7_89 ws5_89 p1 b4.1 | omega) (by first | exact oq_d7ce4408 ws7_12 ws5_12 p2 | omega) (by first | exact oq_5bcdc35f ws7_97 ws7_28 ws5_97 ws5_28 p3 | omega))
theorem lc_43 (G : GX l s0 D tys a0 dT) (GR : RS0 s0) (SF : SF0 s0) (GT : TXs0 s0) {k : kx_T} (X : AX k 350 dT) (E : kL k = l ∧ kS0 k = s0 ∧ kD k = D ∧ kR k = room_1) {q1 L : Nat} {xs : Nat → Int32} (S : SX k q1 L xs) (hL : L ≤ 3072) (I : Bd s) (jR : RLx s) (jREQ : REQ 39 234 28 s) (p1 : iI s 89 = 1) (p2 : iI s 12 ≤ 8) (p3 : iI s 28 = iI s 97) {i : Int} (hi : 0 ≤ i ∧ i + 6 ≤ (L : Int)) {ce sl : Nat} (hce : ce + 29 ≤ 601024) (hsl : sl + 222 ≤ 7293034) (hk : ∀ (A : Nat → Nat) (t : PS), Bd t → RLx t → REQ 39 234 28 t → iI t 89 = 1 → iI t 12 ≤ 8 → iI t 28 = iI t 97 → WS k 1866 [(0, .ref q1), (1, .ref (A 0)), (2, .ref (A 179)), (3, .ref (A 517)), (4, .int (Int32.ofInt i))] [] (Wd A dT t) (ce + 29) (sl + 222)) : WS k 1841 [(0, .ref q1), (1, .ref (A 0)), (2, .ref (A 179)), (3, .ref (A 517)), (4, .int (Int32.ofInt i))] [] (Wd A dT s) ce sl := by
  have F : Fm [73] [] s s := fm_rf _ _ s
  have b1 := bi_28 I
  have b2 := bi_97 I
  have b3 := bi_12 I
  have b4 := bi_89 I
  refine z_aload_n X (x := A 0) rfl (List.Mem.tail _ (List.Mem.head _)) (z_aload_n X (x := q1) rfl (List.Mem.head _) (z_load X (x := i) rfl (List.Mem.tail _ (List.Mem.tail _ (List.Mem.tail _ (List.Mem.tail _ (List.Mem.head _))))) (z_const X rfl (z_add X rfl (z_sld X S hL rfl (show 0 ≤ (i + 1) ∧ (i + 1) < (L : Int) by first | exact sx_in hi (by decide) | omega) ?_)))))
  have sr5 : rng (sc xs (i + 1)) := sc_rng
  refine z_callV X 0 (rm := rmN 178) (As := [.int (Int32.ofInt (sc xs (i + 1)))]) (st := []) rfl rfl (by decide) rfl (by rw [E.1, E.2.1, E.2.2.1]; exact cs_count G I (by first | exact ⟨sr5.1, sr5.2⟩ | omega)) ⟨by rw [E.2.2.2]; exact (show 8 + 1 ≤ 2048 from oq_5bf2829b), by rw [E.2.2.2]; exact (show 8 + (2 + 11) + 143 ≤ 84000 from oq_ca72eefc), by rw [E.2.2.2]; exact (show ce + 0 ≤ 601024 by omega), by rw [E.2.2.2]; exact (show sl + 0 ≤ 7293034 by omega)⟩ (Nat.le_of_ble_eq_true rfl) (fun vv s6 hq => ?_) (fun ee s6 hq => ?_)
  rotate_left
  · obtain ⟨Is6, Fs6, e7, hv, hrs6, hps6⟩ := hq; cases hv
  obtain ⟨Is6, Fs6, e7, hv, hrs6, hps6⟩ := hq
  cases hv
  have Gs6 := fm_tq F Fs6 rfl rfl
  have JRLx_s6 : RLx s6 := RLx_fm Fs6 (by decide) jR
  have JREQ_s6 : REQ 39 234 28 s6 := REQ_fm Fs6 (by decide) jREQ
  have ws6_28 : iI s6 28 = iI s 28 := fm_iq Fs6 rfl
  have ws6_97 : iI s6 97 = iI s 97 := fm_iq Fs6 rfl
  have ws6_12 : iI s6 12 = iI s 12 := fm_iq Fs6 rfl
  have ws6_89 : iI s6 89 = iI s 89 := fm_iq Fs6 rfl
  have wos6 : iO s6 = iO s := fm_o Fs6 (by decide)
  show WS k 1851 [(0, .ref q1), (1, .ref (A 0)), (2, .ref (A 179)), (3, .ref (A 517)), (4, .int (Int32.ofInt i))] [.int (Int32.ofInt e7)] (Wd A dT s6) ce sl
  refine w_pop X.1 (ax_d X (show cdA 350 1851 = some (.pop, 1, 0, 0, 0) from rfl)) rfl (z_aload_n X (x := A 179) rfl (List.Mem.tail _ (List.Mem.tail _ (List.Mem.head _))) (z_aload_n X (x := q1) rfl (List.Mem.head _) (z_load X (x := i) rfl (List.Mem.tail _ (List.Mem.tail _ (List.Mem.tail _ (List.Mem.tail _ (List.Mem.head _))))) (z_const X rfl (z_add X rfl (z_sld X S hL rfl (show 0 ≤ (i + 1) ∧ (i + 1) < (L : Int) by first | exact sx_in hi (by decide) | omega) ?_))))))
  have sr8 : rng (sc xs (i + 1)) := sc_rng
  refine z_callV X 179 (rm := rmN 295) (As := [.int (Int32.ofInt (sc xs (i + 1)))]) (st := []) rfl rfl (by decide) rfl (by rw [E.1, E.2.1, E.2.2.1]; exact k_count G Is6 (by first | exact ⟨sr8.1, sr8.2⟩ | omega)) ⟨by rw [E.2.2.2]; exact (show 7 + 1 ≤ 2048 from oq_4e6106eb), by rw [E.2.2.2]; exact (show 8 + (6 + 11) + 122 ≤ 84000 from oq_380e4f97), by rw [E.2.2.2]; exact (show ce + 0 ≤ 601024 by omega), by rw [E.2.2.2]; exact (show sl + 0 ≤ 7293034 by omega)⟩ (Nat.le_of_ble_eq_true rfl) (fun vv s9 hq => ?_) (fun ee s9 hq => ?_)
  rotate_left
  · obtain ⟨Is9, Fs9, e10, hv, hrs9, hps9⟩ := hq; cases hv
  obtain ⟨Is9, Fs9, e10, hv, hrs9, hps9⟩ := hq
  cases hv
  have Gs9 := fm_tq Gs6 Fs9 rfl rfl
  have JRLx_s9 : RLx s9 := RLx_fm Fs9 (by decide) JRLx_s6
  have JREQ_s9 : REQ 39 234 28 s9 := REQ_fm Fs9 (by decide) JREQ_s6
  have ws9_28 : iI s9 28 = iI s6 28 := fm_iq Fs9 rfl
  have ws9_97 : iI s9 97 = iI s6 97 := fm_iq Fs9 rfl
  have ws9_12 : iI s9 12 = iI s6 12 := fm_iq Fs9 rfl
  have ws9_89 : iI s9 89 = iI s6 89 := fm_iq Fs9 rfl
  have wos9 : iO s9 = iO s6 := fm_o Fs9 (by decide)
  show WS k 1862 [(0, .ref q1), (1, .ref (A 0)), (2, .ref (A 179)), (3, .ref (A 517)), (4, .int (Int32.ofInt i))] [.int (Int32.ofInt e10)] (Wd A dT s9) ce sl
  refine w_pop X.1 (ax_d X (show cdA 350 1862 = some (.pop, 1, 0, 0, 0) from rfl)) rfl (z_goto X (t := 1866) rfl rfl (w_widen (ce' := ce + 29) (sl' := sl + 222) (by first | exact Nat.le_add_right _ _ | exact Nat.add_le_add_left (by decide) _ | omega) (by first | exact Nat.le_add_right _ _ | exact Nat.add_le_add_left (by decide) _ | omega) ?_))
  exact WS_lv (lv := [(0, .ref q1), (1, .ref (A 0)), (2, .ref (A 179)), (3, .ref (A 517)), (4, .int (Int32.ofInt i))]) (List.forall_mem_cons.mpr ⟨(List.Mem.head _), (List.forall_mem_cons.mpr ⟨(List.Mem.tail _ (List.Mem.head _)), (List.forall_mem_cons.mpr ⟨(List.Mem.tail _ (List.Mem.tail _ (List.Mem.head _))), (List.forall_mem_cons.mpr ⟨(List.Mem.tail _ (List.Mem.tail _ (List.Mem.tail _ (List.Mem.head _)))), (List.forall_mem_cons.mpr ⟨(List.Mem.tail _ (List.Mem.tail _ (List.Mem.tail _ (List.Mem.tail _ (List.Mem.head _))))), (fun q h => absurd h List.not_mem_nil)⟩)⟩)⟩)⟩)⟩) (hk A _ Is9 JRLx_s9 JREQ_s9 (by first | exact oq_f34933ba ws9_89 ws6_89 p1 b4.1 | omega) (by first | exact oq_d7ce4408 ws9_12 ws6_12 p2 | omega) (by first | exact oq_5bcdc35f ws9_97 ws9_28 ws6_97 ws6_28 p3 | omega))
theorem law_head (G : GX l s0 D tys a0 dT) (GR : RS0 s0) (SF : SF0 s0) (GT : TXs0 s0) {k : kx_T} (X : AX k 350 dT) (E : kL k = l ∧ kS0 k = s0 ∧ kD k = D ∧ kR k = room_1) {q1 L : Nat} {xs : Nat → Int32} (S : SX k q1 L xs) (hL : L ≤ 3072) (hRt : (kMe k).sig.returnType = some .boolean) (q : kx_end k K0 601024 7293034) : ∀ (n m : Nat) (A : Nat → Nat) (s : PS), Bd s → RLx s → REQ 39 234 28 s → iI s 89 = 1 → iI s 12 ≤ 8 → iI s 28 = iI s 97 → (L : Int) ≤ 6 * ((m + n : Nat) : Int) + 5 → m ≤ 512 → WS k 23 [(0, .ref q1), (1, .ref (A 0)), (2, .ref (A 179)), (3, .ref (A 517)), (4, .int (Int32.ofInt (6 * (m : Int))))] [] (Wd A dT s) (518 + 29 * m) (23524 + 222 * m) := by
  intro n
  induction n with
  | zero =>
    intro m A s I jR jREQ p1 p2 p3 hn hm
    refine z_load X (x := (6 * (m : Int))) rfl (List.Mem.tail _ (List.Mem.tail _ (List.Mem.tail _ (List.Mem.tail _ (List.Mem.head _))))) (z_aload_n X (x := q1) rfl (List.Mem.head _) (z_slen X S hL rfl (z_bipush X rfl (z_sub X rfl (z_icmp_gt X (t := 1872) rfl rfl ⟨by omega, by omega⟩ ⟨by omega, by omega⟩ (fun g1 => ?_) (fun g1 => ?_))))))
    ·
      refine z_const X rfl ?_
      exact w_iret X.1 q hRt (nar_ret (Or.inr rfl)) (ax_d X (show cdA 350 1873 = some (.ireturn, 1, 0, 0, 0) from rfl)) (by omega) (by omega) rfl
    ·
      exfalso
      omega
  | succ n ih =>
    intro m A s I jR jREQ p1 p2 p3 hn hm
    refine z_load X (x := (6 * (m : Int))) rfl (List.Mem.tail _ (List.Mem.tail _ (List.Mem.tail _ (List.Mem.tail _ (List.Mem.head _))))) (z_aload_n X (x := q1) rfl (List.Mem.head _) (z_slen X S hL rfl (z_bipush X rfl (z_sub X rfl (z_icmp_gt X (t := 1872) rfl rfl ⟨by omega, by omega⟩ ⟨by omega, by omega⟩ (fun g1 => ?_) (fun g1 => ?_))))))
    ·
      refine z_const X rfl ?_
      exact w_iret X.1 q hRt (nar_ret (Or.inr rfl)) (ax_d X (show cdA 350 1873 = some (.ireturn, 1, 0, 0, 0) from rfl)) (by omega) (by omega) rfl
    ·
      have hk : ∀ (A : Nat → Nat) (t : PS), Bd t → RLx t → REQ 39 234 28 t → iI t 89 = 1 → iI t 12 ≤ 8 → iI t 28 = iI t 97 → WS k 1866 [(0, .ref q1), (1, .ref (A 0)), (2, .ref (A 179)), (3, .ref (A 517)), (4, .int (Int32.ofInt (6 * (m : Int))))] [] (Wd A dT t) (518 + 29 * m + 29) (23524 + 222 * m + 222) := by
        intro A t I jR jREQ p1 p2 p3
        refine z_inc X (x := (6 * (m : Int))) (lv' := [(4, .int (Int32.ofInt (6 * (m : Int) + 6))), (0, .ref q1), (1, .ref (A 0)), (2, .ref (A 179)), (3, .ref (A 517))]) rfl (by decide) (List.Mem.tail _ (List.Mem.tail _ (List.Mem.tail _ (List.Mem.tail _ (List.Mem.head _))))) (fun _ h => h) (z_goto X (t := 23) rfl rfl ?_)
        have e6 : (6 * (m : Int) + 6) = 6 * ((m + 1 : Nat) : Int) := by omega
        rw [e6]
        refine WS_pq [1, 2, 3, 4, 0] (lv' := [(0, .ref q1), (1, .ref (A 0)), (2, .ref (A 179)), (3, .ref (A 517)), (4, .int (Int32.ofInt (6 * ((m + 1 : Nat) : Int))))]) rfl (w_widen (ce' := 518 + 29 * (m + 1)) (sl' := 23524 + 222 * (m + 1)) (by omega) (by omega) ?_)
        exact ih (m + 1) A t I jR jREQ p1 p2 p3 (by omega) (by omega)
      refine z_aload_n X (x := q1) rfl (List.Mem.head _) (z_load X (x := (6 * (m : Int))) rfl (List.Mem.tail _ (List.Mem.tail _ (List.Mem.tail _ (List.Mem.tail _ (List.Mem.head _))))) (z_sld X S hL rfl (show 0 ≤ (6 * (m : Int)) ∧ (6 * (m : Int)) < (L : Int) by first | exact sx_in hi (by decide) | omega) ?_))
      have sr2 : rng (sc xs (6 * (m : Int))) := sc_rng
      refine z_bipush X rfl (z_andm X rfl (by decide) (by decide) (fun y3 hy3 gy3 => ?_))
      rcases (show y3 = 0 ∨ y3 = 1 ∨ y3 = 2 ∨ y3 = 3 ∨ y3 = 4 ∨ y3 = 5 ∨ y3 = 6 ∨ y3 = 7 ∨ y3 = 8 ∨ y3 = 9 ∨ y3 = 10 ∨ y3 = 11 ∨ y3 = 12 ∨ y3 = 13 ∨ y3 = 14 ∨ y3 = 15 ∨ y3 = 16 ∨ y3 = 17 ∨ y3 = 18 ∨ y3 = 19 ∨ y3 = 20 ∨ y3 = 21 ∨ y3 = 22 ∨ y3 = 23 ∨ y3 = 24 ∨ y3 = 25 ∨ y3 = 26 ∨ y3 = 27 ∨ y3 = 28 ∨ y3 = 29 ∨ y3 = 30 ∨ y3 = 31 ∨ y3 = 32 ∨ y3 = 33 ∨ y3 = 34 ∨ y3 = 35 ∨ y3 = 36 ∨ y3 = 37 ∨ y3 = 38 ∨ y3 = 39 ∨ y3 = 40 ∨ y3 = 41 ∨ y3 = 42 ∨ y3 = 43 ∨ (y3 < 0 ∨ 43 < y3) by omega) with gs | gs | gs | gs | gs | gs | gs | gs | gs | gs | gs | gs | gs | gs | gs | gs | gs | gs | gs | gs | gs | gs | gs | gs | gs | gs | gs | gs | gs | gs | gs | gs | gs | gs | gs | gs | gs | gs | gs | gs | gs | gs | gs | gs | gs
      ·
        rw [gs]
        refine w_tabIn X.1 (dflt := 1826) (lo := 0) (hi := 43) (offs := #[192, 265, 293, 321, 334, 374, 435, 484, 524, 564, 616, 656, 708, 748, 776, 816, 844, 872, 900, 913, 926, 954, 982, 1010, 1050, 1063, 1091, 1131, 1159, 1199, 1239, 1279, 1331, 1371, 1399, 1455, 1519, 1599, 1627, 1707, 1747, 1775, 1788, 1801]) (len := 192) (off := 192) (t := 232) (ax_d X (show cdA 350 40 = some (.tableswitch 1826 0 43 #[192, 265, 293, 321, 334, 374, 435, 484, 524, 564, 616, 656, 708, 748, 776, 816, 844, 872, 900, 913, 926, 954, 982, 1010, 1050, 1063, 1091, 1131, 1159, 1199, 1239, 1279, 1331, 1371, 1399, 1455, 1519, 1599, 1627, 1707, 1747, 1775, 1788, 1801], 192, 0, 0, 0) from rfl)) (by decide) (by decide) (by decide) (by decide) ?_
        exact lc_0 G GR SF GT X E S hL I jR jREQ p1 p2 p3 (by omega) (by omega) (by omega) hk
      ·
        rw [gs]
        refine w_tabIn X.1 (dflt := 1826) (lo := 0) (hi := 43) (offs := #[192, 265, 293, 321, 334, 374, 435, 484, 524, 564, 616, 656, 708, 748, 776, 816, 844, 872, 900, 913, 926, 954, 982, 1010, 1050, 1063, 1091, 1131, 1159, 1199, 1239, 1279, 1331, 1371, 1399, 1455, 1519, 1599, 1627, 1707, 1747, 1775, 1788, 1801]) (len := 192) (off := 265) (t := 305) (ax_d X (show cdA 350 40 = some (.tableswitch 1826 0 43 #[192, 265, 293, 321, 334, 374, 435, 484, 524, 564, 616, 656, 708, 748, 776, 816, 844, 872, 900, 913, 926, 954, 982, 1010, 1050, 1063, 1091, 1131, 1159, 1199, 1239, 1279, 1331, 1371, 1399, 1455, 1519, 1599, 1627, 1707, 1747, 1775, 1788, 1801], 192, 0, 0, 0) from rfl)) (by decide) (by decide) (by decide) (by decide) ?_
        exact lc_1 G GR SF GT X E S hL I jR jREQ p1 p2 p3 (by omega) (by omega) (by omega) hk
      ·
        rw [gs]
        refine w_tabIn X.1 (dflt := 1826) (lo := 0) (hi := 43) (offs := #[192, 265, 293, 321, 334, 374, 435, 484, 524, 564, 616, 656, 708, 748, 776, 816, 844, 872, 900, 913, 926, 954, 982, 1010, 1050, 1063, 1091, 1131, 1159, 1199, 1239, 1279, 1331, 1371, 1399, 1455, 1519, 1599, 1627, 1707, 1747, 1775, 1788, 1801]) (len := 192) (off := 293) (t := 333) (ax_d X (show cdA 350 40 = some (.tableswitch 1826 0 43 #[192, 265, 293, 321, 334, 374, 435, 484, 524, 564, 616, 656, 708, 748, 776, 816, 844, 872, 900, 913, 926, 954, 982, 1010, 1050, 1063, 1091, 1131, 1159, 1199, 1239, 1279, 1331, 1371, 1399, 1455, 1519, 1599, 1627, 1707, 1747, 1775, 1788, 1801], 192, 0, 0, 0) from rfl)) (by decide) (by decide) (by decide) (by decide) ?_
        exact lc_2 G GR SF GT X E S hL I jR jREQ p1 p2 p3 (by omega) (by omega) (by omega) hk
      ·
        rw [gs]
        refine w_tabIn X.1 (dflt := 1826) (lo := 0) (hi := 43) (offs := #[192, 265, 293, 321, 334, 374, 435, 484, 524, 564, 616, 656, 708, 748, 776, 816, 844, 872, 900, 913, 926, 954, 982, 1010, 1050, 1063, 1091, 1131, 1159, 1199, 1239, 1279, 1331, 1371, 1399, 1455, 1519, 1599, 1627, 1707, 1747, 1775, 1788, 1801]) (len := 192) (off := 321) (t := 361) (ax_d X (show cdA 350 40 = some (.tableswitch 1826 0 43 #[192, 265, 293, 321, 334, 374, 435, 484, 524, 564, 616, 656, 708, 748, 776, 816, 844, 872, 900, 913, 926, 954, 982, 1010, 1050, 1063, 1091, 1131, 1159, 1199, 1239, 1279, 1331, 1371, 1399, 1455, 1519, 1599, 1627, 1707, 1747, 1775, 1788, 1801], 192, 0, 0, 0) from rfl)) (by decide) (by decide) (by decide) (by decide) ?_
        exact lc_3 G GR SF GT X E S hL I jR jREQ p1 p2 p3 (by omega) (by omega) (by omega) hk
      ·
        rw [gs]
        refine w_tabIn X.1 (dflt := 1826) (lo := 0) (hi := 43) (offs := #[192, 265, 293, 321, 334, 374, 435, 484, 524, 564, 616, 656, 708, 748, 776, 816, 844, 872, 900, 913, 926, 954, 982, 1010, 1050, 1063, 1091, 1131, 1159, 1199, 1239, 1279, 1331, 1371, 1399, 1455, 1519, 1599, 1627, 1707, 1747, 1775, 1788, 1801]) (len := 192) (off := 334) (t := 374) (ax_d X (show cdA 350 40 = some (.tableswitch 1826 0 43 #[192, 265, 293, 321, 334, 374, 435, 484, 524, 564, 616, 656, 708, 748, 776, 816, 844, 872, 900, 913, 926, 954, 982, 1010, 1050, 1063, 1091, 1131, 1159, 1199, 1239, 1279, 1331, 1371, 1399, 1455, 1519, 1599, 1627, 1707, 1747, 1775, 1788, 1801], 192, 0, 0, 0) from rfl)) (by decide) (by decide) (by decide) (by decide) ?_
        exact lc_4 G GR SF GT X E S hL I jR jREQ p1 p2 p3 (by omega) (by omega) (by omega) hk
      ·
        rw [gs]
        refine w_tabIn X.1 (dflt := 1826) (lo := 0) (hi := 43) (offs := #[192, 265, 293, 321, 334, 374, 435, 484, 524, 564, 616, 656, 708, 748, 776, 816, 844, 872, 900, 913, 926, 954, 982, 1010, 1050, 1063, 1091, 1131, 1159, 1199, 1239, 1279, 1331, 1371, 1399, 1455, 1519, 1599, 1627, 1707, 1747, 1775, 1788, 1801]) (len := 192) (off := 374) (t := 414) (ax_d X (show cdA 350 40 = some (.tableswitch 1826 0 43 #[192, 265, 293, 321, 334, 374, 435, 484, 524, 564, 616, 656, 708, 748, 776, 816, 844, 872, 900, 913, 926, 954, 982, 1010, 1050, 1063, 1091, 1131, 1159, 1199, 1239, 1279, 1331, 1371, 1399, 1455, 1519, 1599, 1627, 1707, 1747, 1775, 1788, 1801], 192, 0, 0, 0) from rfl)) (by decide) (by decide) (by decide) (by decide) ?_
        exact lc_5 G GR SF GT X E S hL I jR jREQ p1 p2 p3 (by omega) (by omega) (by omega) hk
      ·
        rw [gs]
        refine w_tabIn X.1 (dflt := 1826) (lo := 0) (hi := 43) (offs := #[192, 265, 293, 321, 334, 374, 435, 484, 524, 564, 616, 656, 708, 748, 776, 816, 844, 872, 900, 913, 926, 954, 982, 1010, 1050, 1063, 1091, 1131, 1159, 1199, 1239, 1279, 1331, 1371, 1399, 1455, 1519, 1599, 1627, 1707, 1747, 1775, 1788, 1801]) (len := 192) (off := 435) (t := 475) (ax_d X (show cdA 350 40 = some (.tableswitch 1826 0 43 #[192, 265, 293, 321, 334, 374, 435, 484, 524, 564, 616, 656, 708, 748, 776, 816, 844, 872, 900, 913, 926, 954, 982, 1010, 1050, 1063, 1091, 1131, 1159, 1199, 1239, 1279, 1331, 1371, 1399, 1455, 1519, 1599, 1627, 1707, 1747, 1775, 1788, 1801], 192, 0, 0, 0) from rfl)) (by decide) (by decide) (by decide) (by decide) ?_
        exact lc_6 G GR SF GT X E S hL I jR jREQ p1 p2 p3 (by omega) (by omega) (by omega) hk
      ·
        rw [gs]
        refine w_tabIn X.1 (dflt := 1826) (lo := 0) (hi := 43) (offs := #[192, 265, 293, 321, 334, 374, 435, 484, 524, 564, 616, 656, 708, 748, 776, 816, 844, 872, 900, 913, 926, 954, 982, 1010, 1050, 1063, 1091, 1131, 1159, 1199, 1239, 1279, 1331, 1371, 1399, 1455, 1519, 1599, 1627, 1707, 1747, 1775, 1788, 1801]) (len := 192) (off := 484) (t := 524) (ax_d X (show cdA 350 40 = some (.tableswitch 1826 0 43 #[192, 265, 293, 321, 334, 374, 435, 484, 524, 564, 616, 656, 708, 748, 776, 816, 844, 872, 900, 913, 926, 954, 982, 1010, 1050, 1063, 1091, 1131, 1159, 1199, 1239, 1279, 1331, 1371, 1399, 1455, 1519, 1599, 1627, 1707, 1747, 1775, 1788, 1801], 192, 0, 0, 0) from rfl)) (by decide) (by decide) (by decide) (by decide) ?_
        exact lc_7 G GR SF GT X E S hL I jR jREQ p1 p2 p3 (by omega) (by omega) (by omega) hk
      ·
        rw [gs]
        refine w_tabIn X.1 (dflt := 1826) (lo := 0) (hi := 43) (offs := #[192, 265, 293, 321, 334, 374, 435, 484, 524, 564, 616, 656, 708, 748, 776, 816, 844, 872, 900, 913, 926, 954, 982, 1010, 1050, 1063, 1091, 1131, 1159, 1199, 1239, 1279, 1331, 1371, 1399, 1455, 1519, 1599, 1627, 1707, 1747, 1775, 1788, 1801]) (len := 192) (off := 524) (t := 564) (ax_d X (show cdA 350 40 = some (.tableswitch 1826 0 43 #[192, 265, 293, 321, 334, 374, 435, 484, 524, 564, 616, 656, 708, 748, 776, 816, 844, 872, 900, 913, 926, 954, 982, 1010, 1050, 1063, 1091, 1131, 1159, 1199, 1239, 1279, 1331, 1371, 1399, 1455, 1519, 1599, 1627, 1707, 1747, 1775, 1788, 1801], 192, 0, 0, 0) from rfl)) (by decide) (by decide) (by decide) (by decide) ?_
        exact lc_8 G GR SF GT X E S hL I jR jREQ p1 p2 p3 (by omega) (by omega) (by omega) hk
      ·
        rw [gs]
        refine w_tabIn X.1 (dflt := 1826) (lo := 0) (hi := 43) (offs := #[192, 265, 293, 321, 334, 374, 435, 484, 524, 564, 616, 656, 708, 748, 776, 816, 844, 872, 900, 913, 926, 954, 982, 1010, 1050, 1063, 1091, 1131, 1159, 1199, 1239, 1279, 1331, 1371, 1399, 1455, 1519, 1599, 1627, 1707, 1747, 1775, 1788, 1801]) (len := 192) (off := 564) (t := 604) (ax_d X (show cdA 350 40 = some (.tableswitch 1826 0 43 #[192, 265, 293, 321, 334, 374, 435, 484, 524, 564, 616, 656, 708, 748, 776, 816, 844, 872, 900, 913, 926, 954, 982, 1010, 1050, 1063, 1091, 1131, 1159, 1199, 1239, 1279, 1331, 1371, 1399, 1455, 1519, 1599, 1627, 1707, 1747, 1775, 1788, 1801], 192, 0, 0, 0) from rfl)) (by decide) (by decide) (by decide) (by decide) ?_
        exact lc_9 G GR SF GT X E S hL I jR jREQ p1 p2 p3 (by omega) (by omega) (by omega) hk
      ·
        rw [gs]
        refine w_tabIn X.1 (dflt := 1826) (lo := 0) (hi := 43) (offs := #[192, 265, 293, 321, 334, 374, 435, 484, 524, 564, 616, 656, 708, 748, 776, 816, 844, 872, 900, 913, 926, 954, 982, 1010, 1050, 1063, 1091, 1131, 1159, 1199, 1239, 1279, 1331, 1371, 1399, 1455, 1519, 1599, 1627, 1707, 1747, 1775, 1788, 1801]) (len := 192) (off := 616) (t := 656) (ax_d X (show cdA 350 40 = some (.tableswitch 1826 0 43 #[192, 265, 293, 321, 334, 374, 435, 484, 524, 564, 616, 656, 708, 748, 776, 816, 844, 872, 900, 913, 926, 954, 982, 1010, 1050, 1063, 1091, 1131, 1159, 1199, 1239, 1279, 1331, 1371, 1399, 1455, 1519, 1599, 1627, 1707, 1747, 1775, 1788, 1801], 192, 0, 0, 0) from rfl)) (by decide) (by decide) (by decide) (by decide) ?_
        exact lc_10 G GR SF GT X E S hL I jR jREQ p1 p2 p3 (by omega) (by omega) (by omega) hk
      ·
        rw [gs]
        refine w_tabIn X.1 (dflt := 1826) (lo := 0) (hi := 43) (offs := #[192, 265, 293, 321, 334, 374, 435, 484, 524, 564, 616, 656, 708, 748, 776, 816, 844, 872, 900, 913, 926, 954, 982, 1010, 1050, 1063, 1091, 1131, 1159, 1199, 1239, 1279, 1331, 1371, 1399, 1455, 1519, 1599, 1627, 1707, 1747, 1775, 1788, 1801]) (len := 192) (off := 656) (t := 696) (ax_d X (show cdA 350 40 = some (.tableswitch 1826 0 43 #[192, 265, 293, 321, 334, 374, 435, 484, 524, 564, 616, 656, 708, 748, 776, 816, 844, 872, 900, 913, 926, 954, 982, 1010, 1050, 1063, 1091, 1131, 1159, 1199, 1239, 1279, 1331, 1371, 1399, 1455, 1519, 1599, 1627, 1707, 1747, 1775, 1788, 1801], 192, 0, 0, 0) from rfl)) (by decide) (by decide) (by decide) (by decide) ?_
        exact lc_11 G GR SF GT X E S hL I jR jREQ p1 p2 p3 (by omega) (by omega) (by omega) hk
      ·
        rw [gs]
        refine w_tabIn X.1 (dflt := 1826) (lo := 0) (hi := 43) (offs := #[192, 265, 293, 321, 334, 374, 435, 484, 524, 564, 616, 656, 708, 748, 776, 816, 844, 872, 900, 913, 926, 954, 982, 1010, 1050, 1063, 1091, 1131, 1159, 1199, 1239, 1279, 1331, 1371, 1399, 1455, 1519, 1599, 1627, 1707, 1747, 1775, 1788, 1801]) (len := 192) (off := 708) (t := 748) (ax_d X (show cdA 350 40 = some (.tableswitch 1826 0 43 #[192, 265, 293, 321, 334, 374, 435, 484, 524, 564, 616, 656, 708, 748, 776, 816, 844, 872, 900, 913, 926, 954, 982, 1010, 1050, 1063, 1091, 1131, 1159, 1199, 1239, 1279, 1331, 1371, 1399, 1455, 1519, 1599, 1627, 1707, 1747, 1775, 1788, 1801], 192, 0, 0, 0) from rfl)) (by decide) (by decide) (by decide) (by decide) ?_
        exact lc_12 G GR SF GT X E S hL I jR jREQ p1 p2 p3 (by omega) (by omega) (by omega) hk
      ·
        rw [gs]
        refine w_tabIn X.1 (dflt := 1826) (lo := 0) (hi := 43) (offs := #[192, 265, 293, 321, 334, 374, 435, 484, 524, 564, 616, 656, 708, 748, 776, 816, 844, 872, 900, 913, 926, 954, 982, 1010, 1050, 1063, 1091, 1131, 1159, 1199, 1239, 1279, 1331, 1371, 1399, 1455, 1519, 1599, 1627, 1707, 1747, 1775, 1788, 1801]) (len := 192) (off := 748) (t := 788) (ax_d X (show cdA 350 40 = some (.tableswitch 1826 0 43 #[192, 265, 293, 321, 334, 374, 435, 484, 524, 564, 616, 656, 708, 748, 776, 816, 844, 872, 900, 913, 926, 954, 982, 1010, 1050, 1063, 1091, 1131, 1159, 1199, 1239, 1279, 1331, 1371, 1399, 1455, 1519, 1599, 1627, 1707, 1747, 1775, 1788, 1801], 192, 0, 0, 0) from rfl)) (by decide) (by decide) (by decide) (by decide) ?_
        exact lc_13 G GR SF GT X E S hL I jR jREQ p1 p2 p3 (by omega) (by omega) (by omega) hk
      ·
        rw [gs]
        refine w_tabIn X.1 (dflt := 1826) (lo := 0) (hi := 43) (offs := #[192, 265, 293, 321, 334, 374, 435, 484, 524, 564, 616, 656, 708, 748, 776, 816, 844, 872, 900, 913, 926, 954, 982, 1010, 1050, 1063, 1091, 1131, 1159, 1199, 1239, 1279, 1331, 1371, 1399, 1455, 1519, 1599, 1627, 1707, 1747, 1775, 1788, 1801]) (len := 192) (off := 776) (t := 816) (ax_d X (show cdA 350 40 = some (.tableswitch 1826 0 43 #[192, 265, 293, 321, 334, 374, 435, 484, 524, 564, 616, 656, 708, 748, 776, 816, 844, 872, 900, 913, 926, 954, 982, 1010, 1050, 1063, 1091, 1131, 1159, 1199, 1239, 1279, 1331, 1371, 1399, 1455, 1519, 1599, 1627, 1707, 1747, 1775, 1788, 1801], 192, 0, 0, 0) from rfl)) (by decide) (by decide) (by decide) (by decide) ?_
        exact lc_14 G GR SF GT X E S hL I jR jREQ p1 p2 p3 (by omega) (by omega) (by omega) hk
      ·
        rw [gs]
        refine w_tabIn X.1 (dflt := 1826) (lo := 0) (hi := 43) (offs := #[192, 265, 293, 321, 334, 374, 435, 484, 524, 564, 616, 656, 708, 748, 776, 816, 844, 872, 900, 913, 926, 954, 982, 1010, 1050, 1063, 1091, 1131, 1159, 1199, 1239, 1279, 1331, 1371, 1399, 1455, 1519, 1599, 1627, 1707, 1747, 1775, 1788, 1801]) (len := 192) (off := 816) (t := 856) (ax_d X (show cdA 350 40 = some (.tableswitch 1826 0 43 #[192, 265, 293, 321, 334, 374, 435, 484, 524, 564, 616, 656, 708, 748, 776, 816, 844, 872, 900, 913, 926, 954, 982, 1010, 1050, 1063, 1091, 1131, 1159, 1199, 1239, 1279, 1331, 1371, 1399, 1455, 1519, 1599, 1627, 1707, 1747, 1775, 1788, 1801], 192, 0, 0, 0) from rfl)) (by decide) (by decide) (by decide) (by decide) ?_
        exact lc_15 G GR SF GT X E S hL I jR jREQ p1 p2 p3 (by omega) (by omega) (by omega) hk
      ·
        rw [gs]
        refine w_tabIn X.1 (dflt := 1826) (lo := 0) (hi := 43) (offs := #[192, 265, 293, 321, 334, 374, 435, 484, 524, 564, 616, 656, 708, 748, 776, 816, 844, 872, 900, 913, 926, 954, 982, 1010, 1050, 1063, 1091, 1131, 1159, 1199, 1239, 1279, 1331, 1371, 1399, 1455, 1519, 1599, 1627, 1707, 1747, 1775, 1788, 1801]) (len := 192) (off := 844) (t := 884) (ax_d X (show cdA 350 40 = some (.tableswitch 1826 0 43 #[192, 265, 293, 321, 334, 374, 435, 484, 524, 564, 616, 656, 708, 748, 776, 816, 844, 872, 900, 913, 926, 954, 982, 1010, 1050, 1063, 1091, 1131, 1159, 1199, 1239, 1279, 1331, 1371, 1399, 1455, 1519, 1599, 1627, 1707, 1747, 1775, 1788, 1801], 192, 0, 0, 0) from rfl)) (by decide) (by decide) (by decide) (by decide) ?_
        exact lc_16 G GR SF GT X E S hL I jR jREQ p1 p2 p3 (by omega) (by omega) (by omega) hk
      ·
        rw [gs]
        refine w_tabIn X.1 (dflt := 1826) (lo := 0) (hi := 43) (offs := #[192, 265, 293, 321, 334, 374, 435, 484, 524, 564, 616, 656, 708, 748, 776, 816, 844, 872, 900, 913, 926, 954, 982, 1010, 1050, 1063, 1091, 1131, 1159, 1199, 1239, 1279, 1331, 1371, 1399, 1455, 1519, 1599, 1627, 1707, 1747, 1775, 1788, 1801]) (len := 192) (off := 872) (t := 912) (ax_d X (show cdA 350 40 = some (.tableswitch 1826 0 43 #[192, 265, 293, 321, 334, 374, 435, 484, 524, 564, 616, 656, 708, 748, 776, 816, 844, 872, 900, 913, 926, 954, 982, 1010, 1050, 1063, 1091, 1131, 1159, 1199, 1239, 1279, 1331, 1371, 1399, 1455, 1519, 1599, 1627, 1707, 1747, 1775, 1788, 1801], 192, 0, 0, 0) from rfl)) (by decide) (by decide) (by decide) (by decide) ?_
        exact lc_17 G GR SF GT X E S hL I jR jREQ p1 p2 p3 (by omega) (by omega) (by omega) hk
      ·
        rw [gs]
        refine w_tabIn X.1 (dflt := 1826) (lo := 0) (hi := 43) (offs := #[192, 265, 293, 321, 334, 374, 435, 484, 524, 564, 616, 656, 708, 748, 776, 816, 844, 872, 900, 913, 926, 954, 982, 1010, 1050, 1063, 1091, 1131, 1159, 1199, 1239, 1279, 1331, 1371, 1399, 1455, 1519, 1599, 1627, 1707, 1747, 1775, 1788, 1801]) (len := 192) (off := 900) (t := 940) (ax_d X (show cdA 350 40 = some (.tableswitch 1826 0 43 #[192, 265, 293, 321, 334, 374, 435, 484, 524, 564, 616, 656, 708, 748, 776, 816, 844, 872, 900, 913, 926, 954, 982, 1010, 1050, 1063, 1091, 1131, 1159, 1199, 1239, 1279, 1331, 1371, 1399, 1455, 1519, 1599, 1627, 1707, 1747, 1775, 1788, 1801], 192, 0, 0, 0) from rfl)) (by decide) (by decide) (by decide) (by decide) ?_
        exact lc_18 G GR SF GT X E S hL I jR jREQ p1 p2 p3 (by omega) (by omega) (by omega) hk
      ·
        rw [gs]
        refine w_tabIn X.1 (dflt := 1826) (lo := 0) (hi := 43) (offs := #[192, 265, 293, 321, 334, 374, 435, 484, 524, 564, 616, 656, 708, 748, 776, 816, 844, 872, 900, 913, 926, 954, 982, 1010, 1050, 1063, 1091, 1131, 1159, 1199, 1239, 1279, 1331, 1371, 1399, 1455, 1519, 1599, 1627, 1707, 1747, 1775, 1788, 1801]) (len := 192) (off := 913) (t := 953) (ax_d X (show cdA 350 40 = some (.tableswitch 1826 0 43 #[192, 265, 293, 321, 334, 374, 435, 484, 524, 564, 616, 656, 708, 748, 776, 816, 844, 872, 900, 913, 926, 954, 982, 1010, 1050, 1063, 1091, 1131, 1159, 1199, 1239, 1279, 1331, 1371, 1399, 1455, 1519, 1599, 1627, 1707, 1747, 1775, 1788, 1801], 192, 0, 0, 0) from rfl)) (by decide) (by decide) (by decide) (by decide) ?_
        exact lc_19 G GR SF GT X E S hL I jR jREQ p1 p2 p3 (by omega) (by omega) (by omega) hk
      ·
        rw [gs]
        refine w_tabIn X.1 (dflt := 1826) (lo := 0) (hi := 43) (offs := #[192, 265, 293, 321, 334, 374, 435, 484, 524, 564, 616, 656, 708, 748, 776, 816, 844, 872, 900, 913, 926, 954, 982, 1010, 1050, 1063, 1091, 1131, 1159, 1199, 1239, 1279, 1331, 1371, 1399, 1455, 1519, 1599, 1627, 1707, 1747, 1775, 1788, 1801]) (len := 192) (off := 926) (t := 966) (ax_d X (show cdA 350 40 = some (.tableswitch 1826 0 43 #[192, 265, 293, 321, 334, 374, 435, 484, 524, 564, 616, 656, 708, 748, 776, 816, 844, 872, 900, 913, 926, 954, 982, 1010, 1050, 1063, 1091, 1131, 1159, 1199, 1239, 1279, 1331, 1371, 1399, 1455, 1519, 1599, 1627, 1707, 1747, 1775, 1788, 1801], 192, 0, 0, 0) from rfl)) (by decide) (by decide) (by decide) (by decide) ?_
        exact lc_20 G GR SF GT X E S hL I jR jREQ p1 p2 p3 (by omega) (by omega) (by omega) hk
      ·
        rw [gs]
        refine w_tabIn X.1 (dflt := 1826) (lo := 0) (hi := 43) (offs := #[192, 265, 293, 321, 334, 374, 435, 484, 524, 564, 616, 656, 708, 748, 776, 816, 844, 872, 900, 913, 926, 954, 982, 1010, 1050, 1063, 1091, 1131, 1159, 1199, 1239, 1279, 1331, 1371, 1399, 1455, 1519, 1599, 1627, 1707, 1747, 1775, 1788, 1801]) (len := 192) (off := 954) (t := 994) (ax_d X (show cdA 350 40 = some (.tableswitch 1826 0 43 #[192, 265, 293, 321, 334, 374, 435, 484, 524, 564, 616, 656, 708, 748, 776, 816, 844, 872, 900, 913, 926, 954, 982, 1010, 1050, 1063, 1091, 1131, 1159, 1199, 1239, 1279, 1331, 1371, 1399, 1455, 1519, 1599, 1627, 1707, 1747, 1775, 1788, 1801], 192, 0, 0, 0) from rfl)) (by decide) (by decide) (by decide) (by decide) ?_
        exact lc_21 G GR SF GT X E S hL I jR jREQ p1 p2 p3 (by omega) (by omega) (by omega) hk
      ·
        rw [gs]
        refine w_tabIn X.1 (dflt := 1826) (lo := 0) (hi := 43) (offs := #[192, 265, 293, 321, 334, 374, 435, 484, 524, 564, 616, 656, 708, 748, 776, 816, 844, 872, 900, 913, 926, 954, 982, 1010, 1050, 1063, 1091, 1131, 1159, 1199, 1239, 1279, 1331, 1371, 1399, 1455, 1519, 1599, 1627, 1707, 1747, 1775, 1788, 1801]) (len := 192) (off := 982) (t := 1022) (ax_d X (show cdA 350 40 = some (.tableswitch 1826 0 43 #[192, 265, 293, 321, 334, 374, 435, 484, 524, 564, 616, 656, 708, 748, 776, 816, 844, 872, 900, 913, 926, 954, 982, 1010, 1050, 1063, 1091, 1131, 1159, 1199, 1239, 1279, 1331, 1371, 1399, 1455, 1519, 1599, 1627, 1707, 1747, 1775, 1788, 1801], 192, 0, 0, 0) from rfl)) (by decide) (by decide) (by decide) (by decide) ?_
        exact lc_22 G GR SF GT X E S hL I jR jREQ p1 p2 p3 (by omega) (by omega) (by omega) hk
      ·
        rw [gs]
        refine w_tabIn X.1 (dflt := 1826) (lo := 0) (hi := 43) (offs := #[192, 265, 293, 321, 334, 374, 435, 484, 524, 564, 616, 656, 708, 748, 776, 816, 844, 872, 900, 913, 926, 954, 982, 1010, 1050, 1063, 1091, 1131, 1159, 1199, 1239, 1279, 1331, 1371, 1399, 1455, 1519, 1599, 1627, 1707, 1747, 1775, 1788, 1801]) (len := 192) (off := 1010) (t := 1050) (ax_d X (show cdA 350 40 = some (.tableswitch 1826 0 43 #[192, 265, 293, 321, 334, 374, 435, 484, 524, 564, 616, 656, 708, 748, 776, 816, 844, 872, 900, 913, 926, 954, 982, 1010, 1050, 1063, 1091, 1131, 1159, 1199, 1239, 1279, 1331, 1371, 1399, 1455, 1519, 1599, 1627, 1707, 1747, 1775, 1788, 1801], 192, 0, 0, 0) from rfl)) (by decide) (by decide) (by decide) (by decide) ?_
        exact lc_23 G GR SF GT X E S hL I jR jREQ p1 p2 p3 (by omega) (by omega) (by omega) hk
      ·
        rw [gs]
        refine w_tabIn X.1 (dflt := 1826) (lo := 0) (hi := 43) (offs := #[192, 265, 293, 321, 334, 374, 435, 484, 524, 564, 616, 656, 708, 748, 776, 816, 844, 872, 900, 913, 926, 954, 982, 1010, 1050, 1063, 1091, 1131, 1159, 1199, 1239, 1279, 1331, 1371, 1399, 1455, 1519, 1599, 1627, 1707, 1747, 1775, 1788, 1801]) (len := 192) (off := 1050) (t := 1090) (ax_d X (show cdA 350 40 = some (.tableswitch 1826 0 43 #[192, 265, 293, 321, 334, 374, 435, 484, 524, 564, 616, 656, 708, 748, 776, 816, 844, 872, 900, 913, 926, 954, 982, 1010, 1050, 1063, 1091, 1131, 1159, 1199, 1239, 1279, 1331, 1371, 1399, 1455, 1519, 1599, 1627, 1707, 1747, 1775, 1788, 1801], 192, 0, 0, 0) from rfl)) (by decide) (by decide) (by decide) (by decide) ?_
        exact lc_24 G GR SF GT X E S hL I jR jREQ p1 p2 p3 (by omega) (by omega) (by omega) hk
      ·
        rw [gs]
        refine w_tabIn X.1 (dflt := 1826) (lo := 0) (hi := 43) (offs := #[192, 265, 293, 321, 334, 374, 435, 484, 524, 564, 616, 656, 708, 748, 776, 816, 844, 872, 900, 913, 926, 954, 982, 1010, 1050, 1063, 1091, 1131, 1159, 1199, 1239, 1279, 1331, 1371, 1399, 1455, 1519, 1599, 1627, 1707, 1747, 1775, 1788, 1801]) (len := 192) (off := 1063) (t := 1103) (ax_d X (show cdA 350 40 = some (.tableswitch 1826 0 43 #[192, 265, 293, 321, 334, 374, 435, 484, 524, 564, 616, 656, 708, 748, 776, 816, 844, 872, 900, 913, 926, 954, 982, 1010, 1050, 1063, 1091, 1131, 1159, 1199, 1239, 1279, 1331, 1371, 1399, 1455, 1519, 1599, 1627, 1707, 1747, 1775, 1788, 1801], 192, 0, 0, 0) from rfl)) (by decide) (by decide) (by decide) (by decide) ?_
        exact lc_25 G GR SF GT X E S hL I jR jREQ p1 p2 p3 (by omega) (by omega) (by omega) hk
      ·
        rw [gs]
        refine w_tabIn X.1 (dflt := 1826) (lo := 0) (hi := 43) (offs := #[192, 265, 293, 321, 334, 374, 435, 484, 524, 564, 616, 656, 708, 748, 776, 816, 844, 872, 900, 913, 926, 954, 982, 1010, 1050, 1063, 1091, 1131, 1159, 1199, 1239, 1279, 1331, 1371, 1399, 1455, 1519, 1599, 1627, 1707, 1747, 1775, 1788, 1801]) (len := 192) (off := 1091) (t := 1131) (ax_d X (show cdA 350 40 = some (.tableswitch 1826 0 43 #[192, 265, 293, 321, 334, 374, 435, 484, 524, 564, 616, 656, 708, 748, 776, 816, 844, 872, 900, 913, 926, 954, 982, 1010, 1050, 1063, 1091, 1131, 1159, 1199, 1239, 1279, 1331, 1371, 1399, 1455, 1519, 1599, 1627, 1707, 1747, 1775, 1788, 1801], 192, 0, 0, 0) from rfl)) (by decide) (by decide) (by decide) (by decide) ?_
        exact lc_26 G GR SF GT X E S hL I jR jREQ p1 p2 p3 (by omega) (by omega) (by omega) hk
      ·
        rw [gs]
        refine w_tabIn X.1 (dflt := 1826) (lo := 0) (hi := 43) (offs := #[192, 265, 293, 321, 334, 374, 435, 484, 524, 564, 616, 656, 708, 748, 776, 816, 844, 872, 900, 913, 926, 954, 982, 1010, 1050, 1063, 1091, 1131, 1159, 1199, 1239, 1279, 1331, 1371, 1399, 1455, 1519, 1599, 1627, 1707, 1747, 1775, 1788, 1801]) (len := 192) (off := 1131) (t := 1171) (ax_d X (show cdA 350 40 = some (.tableswitch 1826 0 43 #[192, 265, 293, 321, 334, 374, 435, 484, 524, 564, 616, 656, 708, 748, 776, 816, 844, 872, 900, 913, 926, 954, 982, 1010, 1050, 1063, 1091, 1131, 1159, 1199, 1239, 1279, 1331, 1371, 1399, 1455, 1519, 1599, 1627, 1707, 1747, 1775, 1788, 1801], 192, 0, 0, 0) from rfl)) (by decide) (by decide) (by decide) (by decide) ?_
        exact lc_27 G GR SF GT X E S hL I jR jREQ p1 p2 p3 (by omega) (by omega) (by omega) hk
      ·
        rw [gs]
        refine w_tabIn X.1 (dflt := 1826) (lo := 0) (hi := 43) (offs := #[192, 265, 293, 321, 334, 374, 435, 484, 524, 564, 616, 656, 708, 748, 776, 816, 844, 872, 900, 913, 926, 954, 982, 1010, 1050, 1063, 1091, 1131, 1159, 1199, 1239, 1279, 1331, 1371, 1399, 1455, 1519, 1599, 1627, 1707, 1747, 1775, 1788, 1801]) (len := 192) (off := 1159) (t := 1199) (ax_d X (show cdA 350 40 = some (.tableswitch 1826 0 43 #[192, 265, 293, 321, 334, 374, 435, 484, 524, 564, 616, 656, 708, 748, 776, 816, 844, 872, 900, 913, 926, 954, 982, 1010, 1050, 1063, 1091, 1131, 1159, 1199, 1239, 1279, 1331, 1371, 1399, 1455, 1519, 1599, 1627, 1707, 1747, 1775, 1788, 1801], 192, 0, 0, 0) from rfl)) (by decide) (by decide) (by decide) (by decide) ?_
        exact lc_28 G GR SF GT X E S hL I jR jREQ p1 p2 p3 (by omega) (by omega) (by omega) hk
      ·
        rw [gs]
        refine w_tabIn X.1 (dflt := 1826) (lo := 0) (hi := 43) (offs := #[192, 265, 293, 321, 334, 374, 435, 484, 524, 564, 616, 656, 708, 748, 776, 816, 844, 872, 900, 913, 926, 954, 982, 1010, 1050, 1063, 1091, 1131, 1159, 1199, 1239, 1279, 1331, 1371, 1399, 1455, 1519, 1599, 1627, 1707, 1747, 1775, 1788, 1801]) (len := 192) (off := 1199) (t := 1239) (ax_d X (show cdA 350 40 = some (.tableswitch 1826 0 43 #[192, 265, 293, 321, 334, 374, 435, 484, 524, 564, 616, 656, 708, 748, 776, 816, 844, 872, 900, 913, 926, 954, 982, 1010, 1050, 1063, 1091, 1131, 1159, 1199, 1239, 1279, 1331, 1371, 1399, 1455, 1519, 1599, 1627, 1707, 1747, 1775, 1788, 1801], 192, 0, 0, 0) from rfl)) (by decide) (by decide) (by decide) (by decide) ?_
        exact lc_29 G GR SF GT X E S hL I jR jREQ p1 p2 p3 (by omega) (by omega) (by omega) hk
      ·
        rw [gs]
        refine w_tabIn X.1 (dflt := 1826) (lo := 0) (hi := 43) (offs := #[192, 265, 293, 321, 334, 374, 435, 484, 524, 564, 616, 656, 708, 748, 776, 816, 844, 872, 900, 913, 926, 954, 982, 1010, 1050, 1063, 1091, 1131, 1159, 1199, 1239, 1279, 1331, 1371, 1399, 1455, 1519, 1599, 1627, 1707, 1747, 1775, 1788, 1801]) (len := 192) (off := 1239) (t := 1279) (ax_d X (show cdA 350 40 = some (.tableswitch 1826 0 43 #[192, 265, 293, 321, 334, 374, 435, 484, 524, 564, 616, 656, 708, 748, 776, 816, 844, 872, 900, 913, 926, 954, 982, 1010, 1050, 1063, 1091, 1131, 1159, 1199, 1239, 1279, 1331, 1371, 1399, 1455, 1519, 1599, 1627, 1707, 1747, 1775, 1788, 1801], 192, 0, 0, 0) from rfl)) (by decide) (by decide) (by decide) (by decide) ?_
        exact lc_30 G GR SF GT X E S hL I jR jREQ p1 p2 p3 (by omega) (by omega) (by omega) hk
      ·
        rw [gs]
        refine w_tabIn X.1 (dflt := 1826) (lo := 0) (hi := 43) (offs := #[192, 265, 293, 321, 334, 374, 435, 484, 524, 564, 616, 656, 708, 748, 776, 816, 844, 872, 900, 913, 926, 954, 982, 1010, 1050, 1063, 1091, 1131, 1159, 1199, 1239, 1279, 1331, 1371, 1399, 1455, 1519, 1599, 1627, 1707, 1747, 1775, 1788, 1801]) (len := 192) (off := 1279) (t := 1319) (ax_d X (show cdA 350 40 = some (.tableswitch 1826 0 43 #[192, 265, 293, 321, 334, 374, 435, 484, 524, 564, 616, 656, 708, 748, 776, 816, 844, 872, 900, 913, 926, 954, 982, 1010, 1050, 1063, 1091, 1131, 1159, 1199, 1239, 1279, 1331, 1371, 1399, 1455, 1519, 1599, 1627, 1707, 1747, 1775, 1788, 1801], 192, 0, 0, 0) from rfl)) (by decide) (by decide) (by decide) (by decide) ?_
        exact lc_31 G GR SF GT X E S hL I jR jREQ p1 p2 p3 (by omega) (by omega) (by omega) hk
      ·
        rw [gs]
        refine w_tabIn X.1 (dflt := 1826) (lo := 0) (hi := 43) (offs := #[192, 265, 293, 321, 334, 374, 435, 484, 524, 564, 616, 656, 708, 748, 776, 816, 844, 872, 900, 913, 926, 954, 982, 1010, 1050, 1063, 1091, 1131, 1159, 1199, 1239, 1279, 1331, 1371, 1399, 1455, 1519, 1599, 1627, 1707, 1747, 1775, 1788, 1801]) (len := 192) (off := 1331) (t := 1371) (ax_d X (show cdA 350 40 = some (.tableswitch 1826 0 43 #[192, 265, 293, 321, 334, 374, 435, 484, 524, 564, 616, 656, 708, 748, 776, 816, 844, 872, 900, 913, 926, 954, 982, 1010, 1050, 1063, 1091, 1131, 1159, 1199, 1239, 1279, 1331, 1371, 1399, 1455, 1519, 1599, 1627, 1707, 1747, 1775, 1788, 1801], 192, 0, 0, 0) from rfl)) (by decide) (by decide) (by decide) (by decide) ?_
        exact lc_32 G GR SF GT X E S hL I jR jREQ p1 p2 p3 (by omega) (by omega) (by omega) hk
      ·
        rw [gs]
        refine w_tabIn X.1 (dflt := 1826) (lo := 0) (hi := 43) (offs := #[192, 265, 293, 321, 334, 374, 435, 484, 524, 564, 616, 656, 708, 748, 776, 816, 844, 872, 900, 913, 926, 954, 982, 1010, 1050, 1063, 1091, 1131, 1159, 1199, 1239, 1279, 1331, 1371, 1399, 1455, 1519, 1599, 1627, 1707, 1747, 1775, 1788, 1801]) (len := 192) (off := 1371) (t := 1411) (ax_d X (show cdA 350 40 = some (.tableswitch 1826 0 43 #[192, 265, 293, 321, 334, 374, 435, 484, 524, 564, 616, 656, 708, 748, 776, 816, 844, 872, 900, 913, 926, 954, 982, 1010, 1050, 1063, 1091, 1131, 1159, 1199, 1239, 1279, 1331, 1371, 1399, 1455, 1519, 1599, 1627, 1707, 1747, 1775, 1788, 1801], 192, 0, 0, 0) from rfl)) (by decide) (by decide) (by decide) (by decide) ?_
        exact lc_33 G GR SF GT X E S hL I jR jREQ p1 p2 p3 (by omega) (by omega) (by omega) hk
      ·
        rw [gs]
        refine w_tabIn X.1 (dflt := 1826) (lo := 0) (hi := 43) (offs := #[192, 265, 293, 321, 334, 374, 435, 484, 524, 564, 616, 656, 708, 748, 776, 816, 844, 872, 900, 913, 926, 954, 982, 1010, 1050, 1063, 1091, 1131, 1159, 1199, 1239, 1279, 1331, 1371, 1399, 1455, 1519, 1599, 1627, 1707, 1747, 1775, 1788, 1801]) (len := 192) (off := 1399) (t := 1439) (ax_d X (show cdA 350 40 = some (.tableswitch 1826 0 43 #[192, 265, 293, 321, 334, 374, 435, 484, 524, 564, 616, 656, 708, 748, 776, 816, 844, 872, 900, 913, 926, 954, 982, 1010, 1050, 1063, 1091, 1131, 1159, 1199, 1239, 1279, 1331, 1371, 1399, 1455, 1519, 1599, 1627, 1707, 1747, 1775, 1788, 1801], 192, 0, 0, 0) from rfl)) (by decide) (by decide) (by decide) (by decide) ?_
        exact lc_34 G GR SF GT X E S hL I jR jREQ p1 p2 p3 (by omega) (by omega) (by omega) hk
      ·
        rw [gs]
        refine w_tabIn X.1 (dflt := 1826) (lo := 0) (hi := 43) (offs := #[192, 265, 293, 321, 334, 374, 435, 484, 524, 564, 616, 656, 708, 748, 776, 816, 844, 872, 900, 913, 926, 954, 982, 1010, 1050, 1063, 1091, 1131, 1159, 1199, 1239, 1279, 1331, 1371, 1399, 1455, 1519, 1599, 1627, 1707, 1747, 1775, 1788, 1801]) (len := 192) (off := 1455) (t := 1495) (ax_d X (show cdA 350 40 = some (.tableswitch 1826 0 43 #[192, 265, 293, 321, 334, 374, 435, 484, 524, 564, 616, 656, 708, 748, 776, 816, 844, 872, 900, 913, 926, 954, 982, 1010, 1050, 1063, 1091, 1131, 1159, 1199, 1239, 1279, 1331, 1371, 1399, 1455, 1519, 1599, 1627, 1707, 1747, 1775, 1788, 1801], 192, 0, 0, 0) from rfl)) (by decide) (by decide) (by decide) (by decide) ?_
        exact lc_35 G GR SF GT X E S hL I jR jREQ p1 p2 p3 (by omega) (by omega) (by omega) hk
      ·
        rw [gs]
        refine w_tabIn X.1 (dflt := 1826) (lo := 0) (hi := 43) (offs := #[192, 265, 293, 321, 334, 374, 435, 484, 524, 564, 616, 656, 708, 748, 776, 816, 844, 872, 900, 913, 926, 954, 982, 1010, 1050, 1063, 1091, 1131, 1159, 1199, 1239, 1279, 1331, 1371, 1399, 1455, 1519, 1599, 1627, 1707, 1747, 1775, 1788, 1801]) (len := 192) (off := 1519) (t := 1559) (ax_d X (show cdA 350 40 = some (.tableswitch 1826 0 43 #[192, 265, 293, 321, 334, 374, 435, 484, 524, 564, 616, 656, 708, 748, 776, 816, 844, 872, 900, 913, 926, 954, 982, 1010, 1050, 1063, 1091, 1131, 1159, 1199, 1239, 1279, 1331, 1371, 1399, 1455, 1519, 1599, 1627, 1707, 1747, 1775, 1788, 1801], 192, 0, 0, 0) from rfl)) (by decide) (by decide) (by decide) (by decide) ?_
        exact lc_36 G GR SF GT X E S hL I jR jREQ p1 p2 p3 (by omega) (by omega) (by omega) hk
      ·
        rw [gs]
        refine w_tabIn X.1 (dflt := 1826) (lo := 0) (hi := 43) (offs := #[192, 265, 293, 321, 334, 374, 435, 484, 524, 564, 616, 656, 708, 748, 776, 816, 844, 872, 900, 913, 926, 954, 982, 1010, 1050, 1063, 1091, 1131, 1159, 1199, 1239, 1279, 1331, 1371, 1399, 1455, 1519, 1599, 1627, 1707, 1747, 1775, 1788, 1801]) (len := 192) (off := 1599) (t := 1639) (ax_d X (show cdA 350 40 = some (.tableswitch 1826 0 43 #[192, 265, 293, 321, 334, 374, 435, 484, 524, 564, 616, 656, 708, 748, 776, 816, 844, 872, 900, 913, 926, 954, 982, 1010, 1050, 1063, 1091, 1131, 1159, 1199, 1239, 1279, 1331, 1371, 1399, 1455, 1519, 1599, 1627, 1707, 1747, 1775, 1788, 1801], 192, 0, 0, 0) from rfl)) (by decide) (by decide) (by decide) (by decide) ?_
        exact lc_37 G GR SF GT X E S hL I jR jREQ p1 p2 p3 (by omega) (by omega) (by omega) hk
      ·
        rw [gs]
        refine w_tabIn X.1 (dflt := 1826) (lo := 0) (hi := 43) (offs := #[192, 265, 293, 321, 334, 374, 435, 484, 524, 564, 616, 656, 708, 748, 776, 816, 844, 872, 900, 913, 926, 954, 982, 1010, 1050, 1063, 1091, 1131, 1159, 1199, 1239, 1279, 1331, 1371, 1399, 1455, 1519, 1599, 1627, 1707, 1747, 1775, 1788, 1801]) (len := 192) (off := 1627) (t := 1667) (ax_d X (show cdA 350 40 = some (.tableswitch 1826 0 43 #[192, 265, 293, 321, 334, 374, 435, 484, 524, 564, 616, 656, 708, 748, 776, 816, 844, 872, 900, 913, 926, 954, 982, 1010, 1050, 1063, 1091, 1131, 1159, 1199, 1239, 1279, 1331, 1371, 1399, 1455, 1519, 1599, 1627, 1707, 1747, 1775, 1788, 1801], 192, 0, 0, 0) from rfl)) (by decide) (by decide) (by decide) (by decide) ?_
        exact lc_38 G GR SF GT X E S hL I jR jREQ p1 p2 p3 (by omega) (by omega) (by omega) hk
      ·
        rw [gs]
        refine w_tabIn X.1 (dflt := 1826) (lo := 0) (hi := 43) (offs := #[192, 265, 293, 321, 334, 374, 435, 484, 524, 564, 616, 656, 708, 748, 776, 816, 844, 872, 900, 913, 926, 954, 982, 1010, 1050, 1063, 1091, 1131, 1159, 1199, 1239, 1279, 1331, 1371, 1399, 1455, 1519, 1599, 1627, 1707, 1747, 1775, 1788, 1801]) (len := 192) (off := 1707) (t := 1747) (ax_d X (show cdA 350 40 = some (.tableswitch 1826 0 43 #[192, 265, 293, 321, 334, 374, 435, 484, 524, 564, 616, 656, 708, 748, 776, 816, 844, 872, 900, 913, 926, 954, 982, 1010, 1050, 1063, 1091, 1131, 1159, 1199, 1239, 1279, 1331, 1371, 1399, 1455, 1519, 1599, 1627, 1707, 1747, 1775, 1788, 1801], 192, 0, 0, 0) from rfl)) (by decide) (by decide) (by decide) (by decide) ?_
        exact lc_39 G GR SF GT X E S hL I jR jREQ p1 p2 p3 (by omega) (by omega) (by omega) hk
      ·
        rw [gs]
        refine w_tabIn X.1 (dflt := 1826) (lo := 0) (hi := 43) (offs := #[192, 265, 293, 321, 334, 374, 435, 484, 524, 564, 616, 656, 708, 748, 776, 816, 844, 872, 900, 913, 926, 954, 982, 1010, 1050, 1063, 1091, 1131, 1159, 1199, 1239, 1279, 1331, 1371, 1399, 1455, 1519, 1599, 1627, 1707, 1747, 1775, 1788, 1801]) (len := 192) (off := 1747) (t := 1787) (ax_d X (show cdA 350 40 = some (.tableswitch 1826 0 43 #[192, 265, 293, 321, 334, 374, 435, 484, 524, 564, 616, 656, 708, 748, 776, 816, 844, 872, 900, 913, 926, 954, 982, 1010, 1050, 1063, 1091, 1131, 1159, 1199, 1239, 1279, 1331, 1371, 1399, 1455, 1519, 1599, 1627, 1707, 1747, 1775, 1788, 1801], 192, 0, 0, 0) from rfl)) (by decide) (by decide) (by decide) (by decide) ?_
        exact lc_40 G GR SF GT X E S hL I jR jREQ p1 p2 p3 (by omega) (by omega) (by omega) hk
      ·
        rw [gs]
        refine w_tabIn X.1 (dflt := 1826) (lo := 0) (hi := 43) (offs := #[192, 265, 293, 321, 334, 374, 435, 484, 524, 564, 616, 656, 708, 748, 776, 816, 844, 872, 900, 913, 926, 954, 982, 1010, 1050, 1063, 1091, 1131, 1159, 1199, 1239, 1279, 1331, 1371, 1399, 1455, 1519, 1599, 1627, 1707, 1747, 1775, 1788, 1801]) (len := 192) (off := 1775) (t := 1815) (ax_d X (show cdA 350 40 = some (.tableswitch 1826 0 43 #[192, 265, 293, 321, 334, 374, 435, 484, 524, 564, 616, 656, 708, 748, 776, 816, 844, 872, 900, 913, 926, 954, 982, 1010, 1050, 1063, 1091, 1131, 1159, 1199, 1239, 1279, 1331, 1371, 1399, 1455, 1519, 1599, 1627, 1707, 1747, 1775, 1788, 1801], 192, 0, 0, 0) from rfl)) (by decide) (by decide) (by decide) (by decide) ?_
        exact lc_41 G GR SF GT X E S hL I jR jREQ p1 p2 p3 (by omega) (by omega) (by omega) hk
      ·
        rw [gs]
        refine w_tabIn X.1 (dflt := 1826) (lo := 0) (hi := 43) (offs := #[192, 265, 293, 321, 334, 374, 435, 484, 524, 564, 616, 656, 708, 748, 776, 816, 844, 872, 900, 913, 926, 954, 982, 1010, 1050, 1063, 1091, 1131, 1159, 1199, 1239, 1279, 1331, 1371, 1399, 1455, 1519, 1599, 1627, 1707, 1747, 1775, 1788, 1801]) (len := 192) (off := 1788) (t := 1828) (ax_d X (show cdA 350 40 = some (.tableswitch 1826 0 43 #[192, 265, 293, 321, 334, 374, 435, 484, 524, 564, 616, 656, 708, 748, 776, 816, 844, 872, 900, 913, 926, 954, 982, 1010, 1050, 1063, 1091, 1131, 1159, 1199, 1239, 1279, 1331, 1371, 1399, 1455, 1519, 1599, 1627, 1707, 1747, 1775, 1788, 1801], 192, 0, 0, 0) from rfl)) (by decide) (by decide) (by decide) (by decide) ?_
        exact lc_42 G GR SF GT X E S hL I jR jREQ p1 p2 p3 (by omega) (by omega) (by omega) hk
      ·
        rw [gs]
        refine w_tabIn X.1 (dflt := 1826) (lo := 0) (hi := 43) (offs := #[192, 265, 293, 321, 334, 374, 435, 484, 524, 564, 616, 656, 708, 748, 776, 816, 844, 872, 900, 913, 926, 954, 982, 1010, 1050, 1063, 1091, 1131, 1159, 1199, 1239, 1279, 1331, 1371, 1399, 1455, 1519, 1599, 1627, 1707, 1747, 1775, 1788, 1801]) (len := 192) (off := 1801) (t := 1841) (ax_d X (show cdA 350 40 = some (.tableswitch 1826 0 43 #[192, 265, 293, 321, 334, 374, 435, 484, 524, 564, 616, 656, 708, 748, 776, 816, 844, 872, 900, 913, 926, 954, 982, 1010, 1050, 1063, 1091, 1131, 1159, 1199, 1239, 1279, 1331, 1371, 1399, 1455, 1519, 1599, 1627, 1707, 1747, 1775, 1788, 1801], 192, 0, 0, 0) from rfl)) (by decide) (by decide) (by decide) (by decide) ?_
        exact lc_43 G GR SF GT X E S hL I jR jREQ p1 p2 p3 (by omega) (by omega) (by omega) hk
      ·
        exact w_tabOut X.1 (dflt := 1826) (lo := 0) (hi := 43) (offs := #[192, 265, 293, 321, 334, 374, 435, 484, 524, 564, 616, 656, 708, 748, 776, 816, 844, 872, 900, 913, 926, 954, 982, 1010, 1050, 1063, 1091, 1131, 1159, 1199, 1239, 1279, 1331, 1371, 1399, 1455, 1519, 1599, 1627, 1707, 1747, 1775, 1788, 1801]) (len := 192) (t := 1866) (ax_d X (show cdA 350 40 = some (.tableswitch 1826 0 43 #[192, 265, 293, 321, 334, 374, 435, 484, 524, 564, 616, 656, 708, 748, 776, 816, 844, 872, 900, 913, 926, 954, 982, 1010, 1050, 1063, 1091, 1131, 1159, 1199, 1239, 1279, 1331, 1371, 1399, 1455, 1519, 1599, 1627, 1707, 1747, 1775, 1788, 1801], 192, 0, 0, 0) from rfl)) (by rw [zi ⟨by omega, by omega⟩]; omega) (by decide) (w_widen (ce' := 518 + 29 * m + 29) (sl' := 23524 + 222 * m + 222) (by omega) (by omega) (hk A s I jR jREQ p1 p2 p3))
end M88
