theorem oq_b4ae9026 {a0 a1 : Int} {n2 : Nat} (h0 : a0 < 6) (h1 : (a1 + 6) ≤ ((n2 : Nat) : Int)) : (a1 + a0) < ((n2 : Nat) : Int) := by omega
theorem oq_f45e18a5 {n0 n1 n2 n3 : Nat} (h0 : n0 ≤ n1) (h1 : (n2 + n1) ≤ n3) : (n2 + n0) ≤ n3 := by omega
theorem oq_2c59610d {n0 n1 n2 n3 n4 : Nat} (h0 : (n0 + n1) ≤ n2) (h1 : (n3 + n2) ≤ n4) : ((n3 + n0) + n1) ≤ n4 := by omega
theorem oq_14d7aae0 {a0 : Int} {n1 : Nat} (h0 : a0 < ((n1 : Nat) : Int)) (h1 : n1 ≤ 3072) : (a0 : Int).toNat < 2147483648 := by omega
theorem oq_4baa7c92 {n0 : Nat} (h0 : n0 ≤ 3072) : n0 < 2147483648 := by omega

theorem oq_5bf2829b : 8 + 1 ≤ 2048 := by omega
theorem oq_e23742ae : 8 + (6 + 11) + 147 ≤ 84000 := by omega
theorem oq_4d34cb53 : 6 + 1 ≤ 2048 := by omega
theorem oq_e10754c2 : 8 + (8 + 11) + 100 ≤ 84000 := by omega
theorem oq_5bcdc35f {a0 a1 a2 a3 a4 a5 : Int} (h0 : a0 = a1) (h1 : a2 = a3) (h2 : a1 = a4) (h3 : a3 = a5) (h4 : a5 = a4) : a2 = a0 := by omega
theorem oq_5655e407 : 10 + 1 ≤ 2048 := by omega
theorem oq_0b5c09a5 : 8 + (3 + 11) + 191 ≤ 84000 := by omega
theorem oq_0ed3bd18 : 61 + 1 ≤ 2048 := by omega
theorem oq_735d5381 : 8 + (3 + 11) + 2660 ≤ 84000 := by omega
theorem oq_a32dccc4 : 8 + (1 + 11) + 100 ≤ 84000 := by omega
theorem oq_4e6106eb : 7 + 1 ≤ 2048 := by omega
theorem oq_38d194b9 : 8 + (3 + 11) + 122 ≤ 84000 := by omega
theorem oq_380e4f97 : 8 + (6 + 11) + 122 ≤ 84000 := by omega
theorem oq_ebbf79c1 : 8 + (4 + 11) + 122 ≤ 84000 := by omega
theorem oq_263907be : 8 + (3 + 11) + 146 ≤ 84000 := by omega
theorem oq_2596b3cb : 37 + 1 ≤ 2048 := by omega
theorem oq_93887b04 : 8 + (5 + 11) + 1578 ≤ 84000 := by omega
theorem oq_dead3895 : 39 + 1 ≤ 2048 := by omega
theorem oq_16841511 : 8 + (5 + 11) + 1622 ≤ 84000 := by omega
theorem oq_1d601463 : 9 + 1 ≤ 2048 := by omega
theorem oq_485672f1 : 8 + (2 + 11) + 171 ≤ 84000 := by omega
theorem oq_da2b07c8 : 8 + (6 + 11) + 171 ≤ 84000 := by omega
theorem oq_f75bb075 : 8 + (7 + 11) + 122 ≤ 84000 := by omega
theorem oq_dd1cdbfa : 11 + 1 ≤ 2048 := by omega
theorem oq_c1432001 : 8 + (6 + 11) + 212 ≤ 84000 := by omega
theorem oq_b95bb2bf : 8 + (2 + 11) + 224 ≤ 84000 := by omega
theorem oq_2450e786 : 8 + (2 + 11) + 1622 ≤ 84000 := by omega
theorem oq_f781d9f4 : 12 + 1 ≤ 2048 := by omega
theorem oq_d9c24595 : 8 + (1 + 11) + 237 ≤ 84000 := by omega
theorem oq_2c2f0271 : 41 + 1 ≤ 2048 := by omega
theorem oq_260410fd : 8 + (1 + 11) + 1663 ≤ 84000 := by omega
theorem oq_38aede7b : 42 + 1 ≤ 2048 := by omega
theorem oq_b5fdcedd : 8 + (2 + 11) + 1687 ≤ 84000 := by omega
theorem oq_e190c71b : 8 + (3 + 11) + 1687 ≤ 84000 := by omega
theorem oq_a3fac05c : 38 + 1 ≤ 2048 := by omega
theorem oq_e81fc71d : 8 + (3 + 11) + 1601 ≤ 84000 := by omega
theorem oq_8731b8c0 : 8 + (2 + 11) + 100 ≤ 84000 := by omega
theorem oq_f09e007f : 8 + (2 + 11) + 122 ≤ 84000 := by omega
theorem oq_03e28196 : 62 + 1 ≤ 2048 := by omega
theorem oq_1f8b0a4c : 8 + (3 + 11) + 2686 ≤ 84000 := by omega
theorem oq_e8f78630 {a0 a1 a2 : Int} (h0 : 1 ≤ a0) (h1 : (a1 = 1 → a0 = 1)) (h2 : a1 = a2) (h3 : 1 ≤ a2) (h4 : a2 = 1) : a0 = 1 := by omega
theorem oq_5cbe2cb6 : 64 + 1 ≤ 2048 := by omega
theorem oq_276d7037 : 8 + (6 + 11) + 2742 ≤ 84000 := by omega
theorem oq_31d93303 : 8 + (4 + 11) + 2742 ≤ 84000 := by omega
theorem oq_151ba25b : 8 + (3 + 11) + 2742 ≤ 84000 := by omega
theorem oq_c67cc45d : 73 + 1 ≤ 2048 := by omega
theorem oq_f40e0be7 : 8 + (7 + 11) + 3227 ≤ 84000 := by omega
theorem oq_f8649f31 : 8 + (6 + 11) + 189 ≤ 84000 := by omega
theorem oq_8fd475f0 : 8 + (7 + 11) + 145 ≤ 84000 := by omega
theorem oq_d572abc1 : 8 + (10 + 11) + 1578 ≤ 84000 := by omega
theorem oq_b102b2ee : 8 + (6 + 11) + 1663 ≤ 84000 := by omega
theorem oq_24286ecc : 8 + (4 + 11) + 123 ≤ 84000 := by omega
theorem oq_23aa4b49 : 8 + (1 + 11) + 120 ≤ 84000 := by omega
theorem oq_6fd3db4b : 8 + (1 + 11) + 147 ≤ 84000 := by omega
theorem oq_ca72eefc : 8 + (2 + 11) + 143 ≤ 84000 := by omega
/-! The law's loop: a call of class and model each round -/
/-- the script's int at i -/
def sc (xs : Nat → Int32) (i : Int) : Int := (xs i.toNat).toInt
theorem sc_rng {xs : Nat → Int32} {i : Int} : rng (sc xs i) := rng_to _
/-- the script, as the law's activation sees it -/
def SX (k : kx_T) (b L : Nat) (xs : Nat → Int32) : Prop := va_X b L xs (kS k) (kS k).heap ∧ b < (kS k).heap.size ∧ ¬ kF k b
section ZS
variable {k : kx_T} {mn pc : Nat} {dT : Nat → ClassId} {lv : List (Nat × Value)} {st : List Value} {ws : va_W} {ce sl a b0 b L : Nat} {z : Int} {xs : Nat → Int32}
theorem sx_in {i c : Int} {L : Nat} (h : 0 ≤ i ∧ i + 6 ≤ (L : Int)) (k : 0 ≤ c ∧ c < 6) : 0 ≤ i + c ∧ i + c < (L : Int) := by first | exact And.intro (oq_d8d6a599 k.1 h.1) (oq_b4ae9026 k.2 h.2) | omega
theorem rmo_1 {x a b n : Nat} (h : x + b ≤ n) (k : a ≤ b) : x + a ≤ n := by first | exact oq_f45e18a5 k h | omega
theorem rmo_2 {x a c b n : Nat} (h : x + b ≤ n) (k : c + a ≤ b) : x + c + a ≤ n := by first | exact oq_2c59610d k h | omega
theorem z_sld (X : AX k mn dT) (S : SX k b L xs) (hL : L ≤ 3072) {i : Int} (h : cdA mn pc = some (.iaload, 1, a, b0, z)) (hi : 0 ≤ i ∧ i < (L : Int)) (g : WS k (pc + 1) lv (.int (Int32.ofInt (sc xs i)) :: st) ws ce sl) : WS k pc lv (.int (Int32.ofInt i) :: .ref b :: st) ws ce sl := by
  have e : xs (Int32.ofInt i).toNatClampNeg = Int32.ofInt (sc xs i) := by
    rw [on_of hi.1, on_cl (by first | exact oq_14d7aae0 hi.2 hL | omega)]
    exact (ofi_to _).symm
  rw [on_of hi.1] at e ⊢
  refine w_sld X.1 S.1 S.2.1 S.2.2 (on_in (by first | exact oq_58be8290 hi.2 hi.1 | omega) (by first | exact oq_4baa7c92 hL | omega)) (ax_d X h) ?_
  rw [e]
  exact g
theorem z_slen (X : AX k mn dT) (S : SX k b L xs) (hL : L ≤ 3072) (h : cdA mn pc = some (.arraylength, 1, a, b0, z)) (g : WS k (pc + 1) lv (.int (Int32.ofInt (L : Int)) :: st) ws ce sl) : WS k pc lv (.ref b :: st) ws ce sl := by
  refine w_slen X.1 S.1 S.2.1 S.2.2 (ax_d X h) ?_
  have e : Int32.ofNat L = Int32.ofInt (L : Int) := by
    have h9 := on_of (z := (L : Int)) (by first | exact oq_a3593015 | omega)
    have h8 : ((L : Int)).toNat = L := by first | exact oq_3d866207 | omega
    rw [h8] at h9
    exact h9.symm
  rw [e]
  exact g
theorem z_lO {A : Nat → Nat} {s : PS} (X : AX k mn dT) (h : cdA mn pc = some (.laload, 1, 0, 0, 0)) (g : WS k (pc + 1) lv (.long (gD s 460 0) :: st) (Wd A dT s) ce sl) : WS k pc lv (.int (Int32.ofInt 0) :: .ref (A 517) :: st) (Wd A dT s) ce sl :=
  s_lald X 517 (n := 1) (a := 460) (i := 0) h (by decide) rfl (by decide) (by decide) g
theorem lcmp_0 {x y : Int64} : lg_cmp x y = 0 ↔ x = y := lg_cmp_eq x y
theorem z_lc {s : PS} {b : Int} (hb : rng b) (g : ∀ c : Int, rng c → ((c = 0 ∧ iO s = b) ∨ (c ≠ 0 ∧ iO s ≠ b)) → WS k pc lv (.int (Int32.ofInt c) :: st) ws ce sl) : WS k pc lv (.int (lg_cmp (gD s 460 0) (Int32.ofInt b).toInt64) :: st) ws ce sl := by
  have h9 := g (lg_cmp (gD s 460 0) (Int32.ofInt b).toInt64).toInt (rng_to _)
  rw [ofi_to] at h9
  refine h9 ?_
  have e1 : (Int32.ofInt b).toInt64.toInt = b := by rw [Int32.toInt_toInt64, zi hb]
  by_cases q : gD s 460 0 = (Int32.ofInt b).toInt64
  · refine Or.inl ⟨by rw [lcmp_0.mpr q]; rfl, ?_⟩
    show (gD s 460 0).toInt = b
    rw [q, e1]
  · refine Or.inr ⟨fun z => q (lcmp_0.mp (Int32.toInt_inj.mp (show _ = (0 : Int32).toInt from z))), fun z => q (Int64.toInt_inj.mp ?_)⟩
    rw [e1]
    exact z
end ZS
theorem APJ_fm {L M : List Nat} {s t : PS} (F : Fm L M s t) (h : 21 ∉ M ∧ 228 ∉ M) (r : AEQ 21 228 128 s) : AEQ 21 228 128 t := aeq_sam r (sam_fm F h.1) (sam_fm F h.2)
theorem ALJ_fm {L M : List Nat} {s t : PS} (F : Fm L M s t) (h : 24 ∉ M ∧ 229 ∉ M) (r : AEQ 24 229 8 s) : AEQ 24 229 8 t := aeq_sam r (sam_fm F h.1) (sam_fm F h.2)
def ARJ (s : PS) : Prop := WQJ s ∧ LIJ s ∧ MQJ s ∧ NZJ s ∧ TWJ s ∧ AIR s ∧ CPL s ∧ RLJ s
theorem ARJ_fm {L M : List Nat} {s t : PS} (F : Fm L M s t) (h : ((9 ∉ L ∧ 2 ∉ M ∧ 1 ∉ M ∧ 162 ∉ M) ∧ ∀ j, j < 12 → 166 + j ∉ M) ∧ (90 ∉ L ∧ 162 ∉ M ∧ ∀ i, i < 12 → 166 + i ∉ M ∧ 178 + i ∉ M) ∧ ((8 ∉ M ∧ 10 ∉ M ∧ 9 ∉ M ∧ 11 ∉ M ∧ 12 ∉ M) ∧ (∀ j, j < 12 → 190 + j ∉ M) ∧ 163 ∉ M ∧ 164 ∉ M) ∧ (9 ∉ L ∧ 8 ∉ M) ∧ (9 ∉ L ∧ 14 ∉ M ∧ 11 ∉ M) ∧ (9 ∉ L ∧ 1 ∉ M ∧ 2 ∉ M ∧ 3 + 1000 ∉ M ∧ 4 + 1000 ∉ M ∧ 5 + 1000 ∉ M) ∧ ((9 ∉ L ∧ 10 ∉ L) ∧ 6 ∉ M ∧ 7 + 1000 ∉ M ∧ 3 + 1000 ∉ M ∧ 4 + 1000 ∉ M) ∧ ((85 ∉ L ∧ 82 ∉ L ∧ 158 ∉ M) ∧ (13 ∉ L ∧ 15 ∉ L) ∧ 17 ∉ M ∧ 16 ∉ M)) (r : ARJ s) : ARJ t := ⟨WQJ_fm F h.1 r.1, LIJ_fm F h.2.1 r.2.1, MQJ_fm F h.2.2.1 r.2.2.1, NZJ_fm F h.2.2.2.1 r.2.2.2.1, TWJ_fm F h.2.2.2.2.1 r.2.2.2.2.1, AIR_fm F h.2.2.2.2.2.1 r.2.2.2.2.2.1, CPL_fm F h.2.2.2.2.2.2.1 r.2.2.2.2.2.2.1, RLJ_fm F h.2.2.2.2.2.2.2 r.2.2.2.2.2.2.2⟩
def PTJ (s : PS) : Prop := PMJ s ∧ AEQ 21 228 128 s ∧ AEQ 24 229 8 s ∧ MKJ s
theorem PTJ_fm {L M : List Nat} {s t : PS} (F : Fm L M s t) (h : (21 ∉ M ∧ 22 + 1000 ∉ M ∧ 23 + 1000 ∉ M) ∧ (21 ∉ M ∧ 228 ∉ M) ∧ (24 ∉ M ∧ 229 ∉ M) ∧ (20 ∉ L ∧ 25 ∉ M ∧ ∀ i, i < 4 → 241 + i ∉ M)) (r : PTJ s) : PTJ t := ⟨PMJ_fm F h.1 r.1, APJ_fm F h.2.1 r.2.1, ALJ_fm F h.2.2.1 r.2.2.1, MKJ_fm F h.2.2.2 r.2.2.2⟩
section M88
variable {l : Launch} {s0 : State} {D : va_G} {tys : List (ClassId × FieldType)} {a0 : Array Value} {A : Nat → Nat} {dT : Nat → ClassId} {s : PS}
theorem lc_0 (G : GX l s0 D tys a0 dT) (GR : RS0 s0) (SF : SF0 s0) (GT : TXs0 s0) (GW : TXw0 s0) {k : kx_T} (X : AX k 350 dT) (E : kL k = l ∧ kS0 k = s0 ∧ kD k = D ∧ kR k = room_1) {q1 L : Nat} {xs : Nat → Int32} (S : SX k q1 L xs) (hL : L ≤ 3072) (I : Bd s) (jR : RLx s) (jFEQ : FEQ s) (jRWJ : RWJ s) (jFTK : FTK s) (jARJ : ARJ s) (jPTJ : PTJ s) (p1 : iI s 89 = 1) (p2 : iI s 12 ≤ 8) (p3 : iI s 0 = iI s 74) (p4 : iI s 9 = iI s 90) (p5 : iI s 20 = iI s 98) (p6 : iI s 70 = iI s 107) {i : Int} (hi : 0 ≤ i ∧ i + 6 ≤ (L : Int)) {ce sl : Nat} (hce : ce + 29 ≤ 601024) (hsl : sl + 222 ≤ 7293034) (hk : ∀ (A : Nat → Nat) (t : PS), Bd t → RLx t → FEQ t → RWJ t → FTK t → ARJ t → PTJ t → iI t 89 = 1 → iI t 12 ≤ 8 → iI t 0 = iI t 74 → iI t 9 = iI t 90 → iI t 20 = iI t 98 → iI t 70 = iI t 107 → WS k 1894 [(0, .ref q1), (1, .ref (A 0)), (2, .ref (A 179)), (3, .ref (A 517)), (4, .int (Int32.ofInt i))] [] (Wd A dT t) (ce + 29) (sl + 222)) : WS k 232 [(0, .ref q1), (1, .ref (A 0)), (2, .ref (A 179)), (3, .ref (A 517)), (4, .int (Int32.ofInt i))] [] (Wd A dT s) ce sl := by
  have F : Fm [0, 73, 74] [0, 157] s s := fm_rf _ _ s
  have b1 := bi_0 I
  have b2 := bi_74 I
  have b3 := bi_9 I
  have b4 := bi_90 I
  have b5 := bi_20 I
  have b6 := bi_98 I
  have b7 := bi_70 I
  have b8 := bi_107 I
  have b9 := bi_12 I
  have b10 := bi_89 I
  refine z_aload_n X (x := A 0) rfl (List.Mem.tail _ (List.Mem.head _)) (z_aload_n X (x := q1) rfl (List.Mem.head _) (z_load X (x := i) rfl (List.Mem.tail _ (List.Mem.tail _ (List.Mem.tail _ (List.Mem.tail _ (List.Mem.head _))))) (z_const X rfl (z_add X rfl (z_sld X S hL rfl (show 0 ≤ (i + 1) ∧ (i + 1) < (L : Int) by first | exact sx_in hi (by decide) | omega) ?_)))))
  have sr11 : rng (sc xs (i + 1)) := sc_rng
  refine z_aload_n X (x := q1) rfl (List.Mem.head _) (z_load X (x := i) rfl (List.Mem.tail _ (List.Mem.tail _ (List.Mem.tail _ (List.Mem.tail _ (List.Mem.head _))))) (z_const X rfl (z_add X rfl (z_sld X S hL rfl (show 0 ≤ (i + 2) ∧ (i + 2) < (L : Int) by first | exact sx_in hi (by decide) | omega) ?_))))
  have sr12 : rng (sc xs (i + 2)) := sc_rng
  refine z_aload_n X (x := q1) rfl (List.Mem.head _) (z_load X (x := i) rfl (List.Mem.tail _ (List.Mem.tail _ (List.Mem.tail _ (List.Mem.tail _ (List.Mem.head _))))) (z_const X rfl (z_add X rfl (z_sld X S hL rfl (show 0 ≤ (i + 3) ∧ (i + 3) < (L : Int) by first | exact sx_in hi (by decide) | omega) ?_))))
  have sr13 : rng (sc xs (i + 3)) := sc_rng
  refine z_aload_n X (x := q1) rfl (List.Mem.head _) (z_load X (x := i) rfl (List.Mem.tail _ (List.Mem.tail _ (List.Mem.tail _ (List.Mem.tail _ (List.Mem.head _))))) (z_const X rfl (z_add X rfl (z_sld X S hL rfl (show 0 ≤ (i + 4) ∧ (i + 4) < (L : Int) by first | exact sx_in hi (by decide) | omega) ?_))))
  have sr14 : rng (sc xs (i + 4)) := sc_rng
  refine z_aload_n X (x := q1) rfl (List.Mem.head _) (z_load X (x := i) rfl (List.Mem.tail _ (List.Mem.tail _ (List.Mem.tail _ (List.Mem.tail _ (List.Mem.head _))))) (z_const X rfl (z_add X rfl (z_sld X S hL rfl (show 0 ≤ (i + 5) ∧ (i + 5) < (L : Int) by first | exact sx_in hi (by decide) | omega) ?_))))
  have sr15 : rng (sc xs (i + 5)) := sc_rng
  refine z_callV X 0 (rm := rmN 135) (As := [.int (Int32.ofInt (sc xs (i + 1))), .int (Int32.ofInt (sc xs (i + 2))), .int (Int32.ofInt (sc xs (i + 3))), .int (Int32.ofInt (sc xs (i + 4))), .int (Int32.ofInt (sc xs (i + 5)))]) (st := []) rfl rfl (by decide) rfl (by rw [E.1, E.2.1, E.2.2.1]; exact cs_feed2 G I (by first | exact ⟨sr11.1, sr11.2⟩ | omega) (by first | exact ⟨sr12.1, sr12.2⟩ | omega) (by first | exact ⟨sr13.1, sr13.2⟩ | omega) (by first | exact ⟨sr14.1, sr14.2⟩ | omega) (by first | exact ⟨sr15.1, sr15.2⟩ | omega)) ⟨by rw [E.2.2.2]; exact (show 8 + 1 ≤ 2048 from oq_5bf2829b), by rw [E.2.2.2]; exact (show 8 + (6 + 11) + 147 ≤ 84000 from oq_e23742ae), by rw [E.2.2.2]; exact (show ce + 0 ≤ 601024 by omega), by rw [E.2.2.2]; exact (show sl + 0 ≤ 7293034 by omega)⟩ (Nat.le_of_ble_eq_true rfl) (fun vv s16 hq => ?_) (fun ee s16 hq => ?_)
  rotate_left
  · obtain ⟨Is16, Fs16, e17, hv, hrs16, hps16⟩ := hq; cases hv
  obtain ⟨Is16, Fs16, e17, hv, hrs16, hps16⟩ := hq
  cases hv
  have JRLx_s16 : RLx s16 := RLx_fm Fs16 (by decide) jR
  have JRWJ_s16 : RWJ s16 := RWJ_fm Fs16 (by decide +kernel) jRWJ
  have JFTK_s16 : FTK s16 := FTK_fm Fs16 (by decide) jFTK
  have JARJ_s16 : ARJ s16 := ARJ_fm Fs16 ⟨by decide +kernel, by decide +kernel, by decide +kernel, by decide +kernel, by decide +kernel, by decide +kernel, by decide +kernel, by decide +kernel⟩ jARJ
  have JPTJ_s16 : PTJ s16 := PTJ_fm Fs16 (by decide +kernel) jPTJ
  have b18 := bi_0 Is16
  have ws16_74 : iI s16 74 = iI s 74 := fm_iq Fs16 rfl
  have ws16_9 : iI s16 9 = iI s 9 := fm_iq Fs16 rfl
  have ws16_90 : iI s16 90 = iI s 90 := fm_iq Fs16 rfl
  have ws16_20 : iI s16 20 = iI s 20 := fm_iq Fs16 rfl
  have ws16_98 : iI s16 98 = iI s 98 := fm_iq Fs16 rfl
  have ws16_70 : iI s16 70 = iI s 70 := fm_iq Fs16 rfl
  have ws16_107 : iI s16 107 = iI s 107 := fm_iq Fs16 rfl
  have ws16_12 : iI s16 12 = iI s 12 := fm_iq Fs16 rfl
  have ws16_89 : iI s16 89 = iI s 89 := fm_iq Fs16 rfl
  have wos16 : iO s16 = iO s := fm_o Fs16 (by decide)
  show WS k 266 [(0, .ref q1), (1, .ref (A 0)), (2, .ref (A 179)), (3, .ref (A 517)), (4, .int (Int32.ofInt i))] [.int (Int32.ofInt e17)] (Wd A dT s16) ce sl
  refine w_pop X.1 (ax_d X (show cdA 350 266 = some (.pop, 1, 0, 0, 0) from rfl)) rfl (z_aload_n X (x := A 179) rfl (List.Mem.tail _ (List.Mem.tail _ (List.Mem.head _))) (z_aload_n X (x := q1) rfl (List.Mem.head _) (z_load X (x := i) rfl (List.Mem.tail _ (List.Mem.tail _ (List.Mem.tail _ (List.Mem.tail _ (List.Mem.head _))))) (z_const X rfl (z_add X rfl (z_sld X S hL rfl (show 0 ≤ (i + 1) ∧ (i + 1) < (L : Int) by first | exact sx_in hi (by decide) | omega) ?_))))))
  have sr19 : rng (sc xs (i + 1)) := sc_rng
  refine z_aload_n X (x := q1) rfl (List.Mem.head _) (z_load X (x := i) rfl (List.Mem.tail _ (List.Mem.tail _ (List.Mem.tail _ (List.Mem.tail _ (List.Mem.head _))))) (z_const X rfl (z_add X rfl (z_sld X S hL rfl (show 0 ≤ (i + 2) ∧ (i + 2) < (L : Int) by first | exact sx_in hi (by decide) | omega) ?_))))
  have sr20 : rng (sc xs (i + 2)) := sc_rng
  refine z_aload_n X (x := q1) rfl (List.Mem.head _) (z_load X (x := i) rfl (List.Mem.tail _ (List.Mem.tail _ (List.Mem.tail _ (List.Mem.tail _ (List.Mem.head _))))) (z_const X rfl (z_add X rfl (z_sld X S hL rfl (show 0 ≤ (i + 3) ∧ (i + 3) < (L : Int) by first | exact sx_in hi (by decide) | omega) ?_))))
  have sr21 : rng (sc xs (i + 3)) := sc_rng
  refine z_aload_n X (x := q1) rfl (List.Mem.head _) (z_load X (x := i) rfl (List.Mem.tail _ (List.Mem.tail _ (List.Mem.tail _ (List.Mem.tail _ (List.Mem.head _))))) (z_const X rfl (z_add X rfl (z_sld X S hL rfl (show 0 ≤ (i + 4) ∧ (i + 4) < (L : Int) by first | exact sx_in hi (by decide) | omega) ?_))))
  have sr22 : rng (sc xs (i + 4)) := sc_rng
  refine z_aload_n X (x := q1) rfl (List.Mem.head _) (z_load X (x := i) rfl (List.Mem.tail _ (List.Mem.tail _ (List.Mem.tail _ (List.Mem.tail _ (List.Mem.head _))))) (z_const X rfl (z_add X rfl (z_sld X S hL rfl (show 0 ≤ (i + 5) ∧ (i + 5) < (L : Int) by first | exact sx_in hi (by decide) | omega) ?_))))
  have sr23 : rng (sc xs (i + 5)) := sc_rng
  refine z_callV X 179 (rm := rmN 191) (As := [.int (Int32.ofInt (sc xs (i + 1))), .int (Int32.ofInt (sc xs (i + 2))), .int (Int32.ofInt (sc xs (i + 3))), .int (Int32.ofInt (sc xs (i + 4))), .int (Int32.ofInt (sc xs (i + 5)))]) (st := []) rfl rfl (by decide) rfl (by rw [E.1, E.2.1, E.2.2.1]; exact k_feed2 G Is16 (by first | exact ⟨sr19.1, sr19.2⟩ | omega) (by first | exact ⟨sr20.1, sr20.2⟩ | omega) (by first | exact ⟨sr21.1, sr21.2⟩ | omega) (by first | exact ⟨sr22.1, sr22.2⟩ | omega) (by first | exact ⟨sr23.1, sr23.2⟩ | omega)) ⟨by rw [E.2.2.2]; exact (show 6 + 1 ≤ 2048 from oq_4d34cb53), by rw [E.2.2.2]; exact (show 8 + (8 + 11) + 100 ≤ 84000 from oq_e10754c2), by rw [E.2.2.2]; exact (show ce + 0 ≤ 601024 by first | (clear hps16; omega) | omega), by rw [E.2.2.2]; exact (show sl + 0 ≤ 7293034 by first | (clear hps16; omega) | omega)⟩ (Nat.le_of_ble_eq_true rfl) (fun vv s24 hq => ?_) (fun ee s24 hq => ?_)
  rotate_left
  · obtain ⟨Is24, Fs24, e25, hv, hrs24, hps24⟩ := hq; cases hv
  obtain ⟨Is24, Fs24, e25, hv, hrs24, hps24⟩ := hq
  cases hv
  have JRLx_s24 : RLx s24 := RLx_fm Fs24 (by decide) JRLx_s16
  have JRWJ_s24 : RWJ s24 := RWJ_fm Fs24 (by decide +kernel) JRWJ_s16
  have JFTK_s24 : FTK s24 := FTK_fm Fs24 (by decide) JFTK_s16
  have JARJ_s24 : ARJ s24 := ARJ_fm Fs24 ⟨by decide +kernel, by decide +kernel, by decide +kernel, by decide +kernel, by decide +kernel, by decide +kernel, by decide +kernel, by decide +kernel⟩ JARJ_s16
  have JPTJ_s24 : PTJ s24 := PTJ_fm Fs24 (by decide +kernel) JPTJ_s16
  have ws24_0 : iI s24 0 = iI s16 0 := fm_iq Fs24 rfl
  have b26 := bi_74 Is24
  have ws24_9 : iI s24 9 = iI s16 9 := fm_iq Fs24 rfl
  have ws24_90 : iI s24 90 = iI s16 90 := fm_iq Fs24 rfl
  have ws24_20 : iI s24 20 = iI s16 20 := fm_iq Fs24 rfl
  have ws24_98 : iI s24 98 = iI s16 98 := fm_iq Fs24 rfl
  have ws24_70 : iI s24 70 = iI s16 70 := fm_iq Fs24 rfl
  have ws24_107 : iI s24 107 = iI s16 107 := fm_iq Fs24 rfl
  have ws24_12 : iI s24 12 = iI s16 12 := fm_iq Fs24 rfl
  have ws24_89 : iI s24 89 = iI s16 89 := fm_iq Fs24 rfl
  have wos24 : iO s24 = iO s16 := fm_o Fs24 (by decide)
  show WS k 301 [(0, .ref q1), (1, .ref (A 0)), (2, .ref (A 179)), (3, .ref (A 517)), (4, .int (Int32.ofInt i))] [.int (Int32.ofInt e25)] (Wd A dT s24) ce sl
  rcases hps16 with cc | cc
  ·
    rcases hps24 with mm | mm
    ·
      have jq27 : FEQ s24 := feq_up jFEQ cc.2.2.2 (sam_fm Fs16 (by decide)) mm.2.2.2 (sam_fm Fs24 (by decide)) (by first | (clear hps24 hps16; omega) | (clear hps16; omega) | omega) (by first | (clear hps24 hps16; omega) | (clear hps16; omega) | omega)
      refine w_pop X.1 (ax_d X (show cdA 350 301 = some (.pop, 1, 0, 0, 0) from rfl)) rfl (z_goto X (t := 1894) rfl rfl (w_widen (ce' := ce + 29) (sl' := sl + 222) (by first | exact Nat.le_add_right _ _ | exact Nat.add_le_add_left (by decide) _ | omega) (by first | exact Nat.le_add_right _ _ | exact Nat.add_le_add_left (by decide) _ | omega) ?_))
      exact WS_lv (lv := [(0, .ref q1), (1, .ref (A 0)), (2, .ref (A 179)), (3, .ref (A 517)), (4, .int (Int32.ofInt i))]) (List.forall_mem_cons.mpr ⟨(List.Mem.head _), (List.forall_mem_cons.mpr ⟨(List.Mem.tail _ (List.Mem.head _)), (List.forall_mem_cons.mpr ⟨(List.Mem.tail _ (List.Mem.tail _ (List.Mem.head _))), (List.forall_mem_cons.mpr ⟨(List.Mem.tail _ (List.Mem.tail _ (List.Mem.tail _ (List.Mem.head _)))), (List.forall_mem_cons.mpr ⟨(List.Mem.tail _ (List.Mem.tail _ (List.Mem.tail _ (List.Mem.tail _ (List.Mem.head _))))), (fun q h => absurd h List.not_mem_nil)⟩)⟩)⟩)⟩)⟩) (hk A _ Is24 JRLx_s24 jq27 JRWJ_s24 JFTK_s24 JARJ_s24 JPTJ_s24 (by first | exact oq_f34933ba ws24_89 ws16_89 p1 b10.1 | omega) (by first | exact oq_d7ce4408 ws24_12 ws16_12 p2 | omega) (by first | (clear hps24 hps16; omega) | (clear hps16; omega) | omega) (by first | exact oq_5bcdc35f ws24_90 ws24_9 ws16_90 ws16_9 p4 | omega) (by first | exact oq_5bcdc35f ws24_98 ws24_20 ws16_98 ws16_20 p5 | omega) (by first | exact oq_5bcdc35f ws24_107 ws24_70 ws16_107 ws16_70 p6 | omega))
    ·
      exfalso
      omega
  ·
    rcases hps24 with mm | mm
    ·
      exfalso
      omega
    ·
      have jq28 : FEQ s24 := feq_sam jFEQ (sam_ts (sam_fm Fs16 (by decide)) mm.2.2.2) (sam_ts cc.2.2.2 (sam_fm Fs24 (by decide)))
      refine w_pop X.1 (ax_d X (show cdA 350 301 = some (.pop, 1, 0, 0, 0) from rfl)) rfl (z_goto X (t := 1894) rfl rfl (w_widen (ce' := ce + 29) (sl' := sl + 222) (by first | exact Nat.le_add_right _ _ | exact Nat.add_le_add_left (by decide) _ | omega) (by first | exact Nat.le_add_right _ _ | exact Nat.add_le_add_left (by decide) _ | omega) ?_))
      exact WS_lv (lv := [(0, .ref q1), (1, .ref (A 0)), (2, .ref (A 179)), (3, .ref (A 517)), (4, .int (Int32.ofInt i))]) (List.forall_mem_cons.mpr ⟨(List.Mem.head _), (List.forall_mem_cons.mpr ⟨(List.Mem.tail _ (List.Mem.head _)), (List.forall_mem_cons.mpr ⟨(List.Mem.tail _ (List.Mem.tail _ (List.Mem.head _))), (List.forall_mem_cons.mpr ⟨(List.Mem.tail _ (List.Mem.tail _ (List.Mem.tail _ (List.Mem.head _)))), (List.forall_mem_cons.mpr ⟨(List.Mem.tail _ (List.Mem.tail _ (List.Mem.tail _ (List.Mem.tail _ (List.Mem.head _))))), (fun q h => absurd h List.not_mem_nil)⟩)⟩)⟩)⟩)⟩) (hk A _ Is24 JRLx_s24 jq28 JRWJ_s24 JFTK_s24 JARJ_s24 JPTJ_s24 (by first | exact oq_f34933ba ws24_89 ws16_89 p1 b10.1 | omega) (by first | exact oq_d7ce4408 ws24_12 ws16_12 p2 | omega) (by first | (clear hps24 hps16; omega) | (clear hps16; omega) | omega) (by first | exact oq_5bcdc35f ws24_90 ws24_9 ws16_90 ws16_9 p4 | omega) (by first | exact oq_5bcdc35f ws24_98 ws24_20 ws16_98 ws16_20 p5 | omega) (by first | exact oq_5bcdc35f ws24_107 ws24_70 ws16_107 ws16_70 p6 | omega))
theorem lc_1 (G : GX l s0 D tys a0 dT) (GR : RS0 s0) (SF : SF0 s0) (GT : TXs0 s0) (GW : TXw0 s0) {k : kx_T} (X : AX k 350 dT) (E : kL k = l ∧ kS0 k = s0 ∧ kD k = D ∧ kR k = room_1) {q1 L : Nat} {xs : Nat → Int32} (S : SX k q1 L xs) (hL : L ≤ 3072) (I : Bd s) (jR : RLx s) (jFEQ : FEQ s) (jRWJ : RWJ s) (jFTK : FTK s) (jARJ : ARJ s) (jPTJ : PTJ s) (p1 : iI s 89 = 1) (p2 : iI s 12 ≤ 8) (p3 : iI s 0 = iI s 74) (p4 : iI s 9 = iI s 90) (p5 : iI s 20 = iI s 98) (p6 : iI s 70 = iI s 107) {i : Int} (hi : 0 ≤ i ∧ i + 6 ≤ (L : Int)) {ce sl : Nat} (hce : ce + 29 ≤ 601024) (hsl : sl + 222 ≤ 7293034) (hk : ∀ (A : Nat → Nat) (t : PS), Bd t → RLx t → FEQ t → RWJ t → FTK t → ARJ t → PTJ t → iI t 89 = 1 → iI t 12 ≤ 8 → iI t 0 = iI t 74 → iI t 9 = iI t 90 → iI t 20 = iI t 98 → iI t 70 = iI t 107 → WS k 1894 [(0, .ref q1), (1, .ref (A 0)), (2, .ref (A 179)), (3, .ref (A 517)), (4, .int (Int32.ofInt i))] [] (Wd A dT t) (ce + 29) (sl + 222)) : WS k 305 [(0, .ref q1), (1, .ref (A 0)), (2, .ref (A 179)), (3, .ref (A 517)), (4, .int (Int32.ofInt i))] [] (Wd A dT s) ce sl := by
  have F : Fm [11, 9, 10, 2, 4, 6, 5, 1, 3, 0, 7, 8, 73, 74, 76, 90, 91, 77, 75, 78, 79, 80, 81] [15, 1, 2, 6, 1003, 1004, 1005, 1007, 1460, 165, 162, 166, 167, 168, 169, 170, 171, 172, 173, 174, 175, 176, 177, 178, 179, 180, 181, 182, 183, 184, 185, 186, 187, 188, 189] s s := fm_rf _ _ s
  have b1 := bi_0 I
  have b2 := bi_74 I
  have b3 := bi_9 I
  have b4 := bi_90 I
  have b5 := bi_20 I
  have b6 := bi_98 I
  have b7 := bi_70 I
  have b8 := bi_107 I
  have b9 := bi_12 I
  have b10 := bi_89 I
  refine z_aload_n X (x := A 0) rfl (List.Mem.tail _ (List.Mem.head _)) (z_aload_n X (x := q1) rfl (List.Mem.head _) (z_load X (x := i) rfl (List.Mem.tail _ (List.Mem.tail _ (List.Mem.tail _ (List.Mem.tail _ (List.Mem.head _))))) (z_const X rfl (z_add X rfl (z_sld X S hL rfl (show 0 ≤ (i + 1) ∧ (i + 1) < (L : Int) by first | exact sx_in hi (by decide) | omega) ?_)))))
  have sr11 : rng (sc xs (i + 1)) := sc_rng
  refine z_aload_n X (x := A 517) rfl (List.Mem.tail _ (List.Mem.tail _ (List.Mem.tail _ (List.Mem.head _)))) (z_callL X (rm := rmN 314) (As := [.ref (A 0), .int (Int32.ofInt (sc xs (i + 1))), .ref (A 517)]) (st := []) rfl (by decide) rfl (by rw [E.1, E.2.1, E.2.2.1]; exact lw_stream5 (B := (fun i => iC s 0 i)) G I (fun _ _ => rfl) jARJ.2.2.2.2.2.1 jARJ.2.2.2.2.2.2.1 (by omega)) ⟨by rw [E.2.2.2]; exact (show 11 + 1 ≤ 2048 by decide), by rw [E.2.2.2]; exact (show 8 + (4 + 11) + 213 ≤ 84000 by decide), by rw [E.2.2.2]; exact (show ce + 1 ≤ 601024 by first | exact rmo_1 hce (by decide) | exact rmo_2 hce (by decide) | omega), by rw [E.2.2.2]; exact (show sl + 6 ≤ 7293034 by first | exact rmo_1 hsl (by decide) | exact rmo_2 hsl (by decide) | omega)⟩ (Nat.le_of_ble_eq_true rfl) (fun vv A s12 hA2 hq => ?_) (fun ee A s12 hA2 hq => ?_))
  rotate_left
  · obtain ⟨Is12, Fs12, JAIR_s12, JCPL_s12, e13, hv, hrs12, hps12⟩ := hq; cases hv
  obtain ⟨Is12, Fs12, JAIR_s12, JCPL_s12, e13, hv, hrs12, hps12⟩ := hq
  cases hv
  rw [← hA2 0 (by decide)]
  rw [← hA2 179 (by decide)]
  rw [← hA2 517 (by decide)]
  have JRLx_s12 : RLx s12 := RLx_fm Fs12 (by decide) jR
  have JFEQ_s12 : FEQ s12 := FEQ_fm Fs12 (by decide) jFEQ
  have JRWJ_s12 : RWJ s12 := RWJ_fm Fs12 (by decide +kernel) jRWJ
  have JFTK_s12 : FTK s12 := FTK_fm Fs12 (by decide) jFTK
  have JPTJ_s12 : PTJ s12 := PTJ_fm Fs12 (by decide +kernel) jPTJ
  have JLIJ_s12 : LIJ s12 := LIJ_fm Fs12 (by decide +kernel) jARJ.2.1
  have JMQJ_s12 : MQJ s12 := MQJ_fm Fs12 (by decide +kernel) jARJ.2.2.1
  have JRLJ_s12 : RLJ s12 := RLJ_fm Fs12 (by decide +kernel) jARJ.2.2.2.2.2.2.2
  have b14 := bi_0 Is12
  have ws12_74 : iI s12 74 = iI s 74 := fm_iq Fs12 rfl
  have b15 := bi_9 Is12
  have ws12_90 : iI s12 90 = iI s 90 := fm_iq Fs12 rfl
  have ws12_20 : iI s12 20 = iI s 20 := fm_iq Fs12 rfl
  have ws12_98 : iI s12 98 = iI s 98 := fm_iq Fs12 rfl
  have ws12_70 : iI s12 70 = iI s 70 := fm_iq Fs12 rfl
  have ws12_107 : iI s12 107 = iI s 107 := fm_iq Fs12 rfl
  have ws12_12 : iI s12 12 = iI s 12 := fm_iq Fs12 rfl
  have ws12_89 : iI s12 89 = iI s 89 := fm_iq Fs12 rfl
  show WS k 316 [(0, .ref q1), (1, .ref (A 0)), (2, .ref (A 179)), (3, .ref (A 517)), (4, .int (Int32.ofInt i))] [.int (Int32.ofInt e13)] (Wd A dT s12) (ce + 1) (sl + 6)
  refine z_store X (lv' := [(5, .int (Int32.ofInt e13)), (0, .ref q1), (1, .ref (A 0)), (2, .ref (A 179)), (3, .ref (A 517)), (4, .int (Int32.ofInt i))]) rfl (by decide) (fun _ h => h) (z_aload_n X (x := A 179) rfl (List.Mem.tail _ (List.Mem.tail _ (List.Mem.tail _ (List.Mem.head _)))) (z_aload_n X (x := q1) rfl (List.Mem.tail _ (List.Mem.head _)) (z_load X (x := i) rfl (List.Mem.tail _ (List.Mem.tail _ (List.Mem.tail _ (List.Mem.tail _ (List.Mem.tail _ (List.Mem.head _)))))) (z_const X rfl (z_add X rfl (z_sld X S hL rfl (show 0 ≤ (i + 1) ∧ (i + 1) < (L : Int) by first | exact sx_in hi (by decide) | omega) ?_))))))
  have sr16 : rng (sc xs (i + 1)) := sc_rng
  have hFD : FDA (fun i => iC s 0 i) s12 := fun i hi => (fm_c Fs12 (by decide)).trans (jFEQ i hi)
  refine z_callV X 179 (rm := rmN 200) (As := [.int (Int32.ofInt (sc xs (i + 1)))]) (st := []) rfl rfl (by decide) rfl (by rw [E.1, E.2.1, E.2.2.1]; exact k_stream3 (B := (fun i => iC s 0 i)) G Is12 JRLx_s12 hFD (by first | exact ⟨sr16.1, sr16.2⟩ | omega)) ⟨by rw [E.2.2.2]; exact (show 10 + 1 ≤ 2048 from oq_5655e407), by rw [E.2.2.2]; exact (show 8 + (3 + 11) + 191 ≤ 84000 from oq_0b5c09a5), by rw [E.2.2.2]; exact (show (ce + 1) + 0 ≤ 601024 by first | (clear hps12; omega) | omega), by rw [E.2.2.2]; exact (show (sl + 6) + 0 ≤ 7293034 by first | (clear hps12; omega) | omega)⟩ (Nat.le_of_ble_eq_true rfl) (fun vv s17 hq => ?_) (fun ee s17 hq => ?_)
  rotate_left
  · obtain ⟨Is17, Fs17, JRLx_s17, JFDA_s17, e18, hv, hrs17, hps17⟩ := hq; cases hv
  obtain ⟨Is17, Fs17, JRLx_s17, JFDA_s17, e18, hv, hrs17, hps17⟩ := hq
  have hps17p := hps17.2
  cases hv
  have JFEQ_s17 : FEQ s17 := FEQ_fm Fs17 (by decide) JFEQ_s12
  have JRWJ_s17 : RWJ s17 := RWJ_fm Fs17 (by decide +kernel) JRWJ_s12
  have JFTK_s17 : FTK s17 := FTK_fm Fs17 (by decide) JFTK_s12
  have JPTJ_s17 : PTJ s17 := PTJ_fm Fs17 (by decide +kernel) JPTJ_s12
  have JMQJ_s17 : MQJ s17 := MQJ_fm Fs17 (by decide +kernel) JMQJ_s12
  have JRLJ_s17 : RLJ s17 := RLJ_fm Fs17 (by decide +kernel) JRLJ_s12
  have JAIR_s17 : AIR s17 := AIR_fm Fs17 (by decide +kernel) JAIR_s12
  have JCPL_s17 : CPL s17 := CPL_fm Fs17 (by decide +kernel) JCPL_s12
  have JFDA_s17 : FDA (fun i => iC s 0 i) s17 := FDA_fm Fs17 (by decide) hFD
  have ws17_0 : iI s17 0 = iI s12 0 := fm_iq Fs17 rfl
  have b19 := bi_74 Is17
  have ws17_9 : iI s17 9 = iI s12 9 := fm_iq Fs17 rfl
  have b20 := bi_90 Is17
  have ws17_20 : iI s17 20 = iI s12 20 := fm_iq Fs17 rfl
  have ws17_98 : iI s17 98 = iI s12 98 := fm_iq Fs17 rfl
  have ws17_70 : iI s17 70 = iI s12 70 := fm_iq Fs17 rfl
  have ws17_107 : iI s17 107 = iI s12 107 := fm_iq Fs17 rfl
  have ws17_12 : iI s17 12 = iI s12 12 := fm_iq Fs17 rfl
  have ws17_89 : iI s17 89 = iI s12 89 := fm_iq Fs17 rfl
  have wos17 : iO s17 = iO s12 := fm_o Fs17 (by decide)
  show WS k 328 [(5, .int (Int32.ofInt e13)), (0, .ref q1), (1, .ref (A 0)), (2, .ref (A 179)), (3, .ref (A 517)), (4, .int (Int32.ofInt i))] [.int (Int32.ofInt e18)] (Wd A dT s17) (ce + 1) (sl + 6)
  have hM1 := hps17.1
  have hM2 := hps17.2
  rcases hps12 with cc | cc
  ·
    rcases hM1 with mm | mm
    ·
      have rq21 := str_eq2 cc.2.2.2.2.2.1 mm.2 (by first | (clear hps17 hps12; omega) | (clear hps12; omega) | omega)
      have rq22 := strx_c cc.2.2.2.2.2.1
      have jb23 : ARJ s17 := ⟨wqj_up jARJ.1 cc.2.2.2.2.2.2 (swm_fm Fs12 (by decide +kernel)) hM2 (sam_fm Fs17 (by decide)) (sam_fm Fs17 (by decide)) (by first | (clear hps17 hps12; omega) | (clear hps12; omega) | omega) (by first | (clear hps17 hps12; omega) | (clear hps12; omega) | omega) (by first | (clear hps17 hps12; omega) | (clear hps12; omega) | omega) (by first | (clear hps17 hps12; omega) | (clear hps12; omega) | omega) rfl ⟨by first | (clear hps17 hps12; omega) | (clear hps12; omega) | omega, by first | (clear hps17 hps12; omega) | (clear hps12; omega) | omega⟩ I, lij_up hM2 JLIJ_s12 (by first | (clear hps17 hps12; omega) | (clear hps12; omega) | omega) (by first | (clear hps17 hps12; omega) | (clear hps12; omega) | omega), JMQJ_s17, nzj_st jARJ.2.2.2.1 (by first | (clear hps17 hps12; omega) | (clear hps12; omega) | omega) (sam_ts (sam_fm Fs12 (by decide +kernel) : SAM 8 _ _) (sam_fm Fs17 (by decide +kernel))), twj_st jARJ.2.2.2.2.1 jARJ.2.2.2.1 jARJ.2.2.1.1 (by first | (clear hps17 hps12; omega) | (clear hps12; omega) | omega) (by first | (clear hps17 hps12; omega) | (clear hps12; omega) | omega) (by first | (clear hps17 hps12; omega) | (clear hps12; omega) | omega) (sam_ts (sam_fm Fs12 (by decide +kernel) : SAM 14 _ _) (sam_fm Fs17 (by decide +kernel))) (sam_ts (sam_fm Fs12 (by decide +kernel) : SAM 11 _ _) (sam_fm Fs17 (by decide +kernel))), JAIR_s17, JCPL_s17, JRLJ_s17⟩
      refine z_store X (lv' := [(6, .int (Int32.ofInt e18)), (5, .int (Int32.ofInt e13)), (0, .ref q1), (1, .ref (A 0)), (2, .ref (A 179)), (3, .ref (A 517)), (4, .int (Int32.ofInt i))]) rfl (by decide) (fun _ h => h) (z_goto X (t := 1894) rfl rfl (w_widen (ce' := ce + 29) (sl' := sl + 222) (by first | exact Nat.le_add_right _ _ | exact Nat.add_le_add_left (by decide) _ | omega) (by first | exact Nat.le_add_right _ _ | exact Nat.add_le_add_left (by decide) _ | omega) ?_))
      exact WS_lv (lv := [(0, .ref q1), (1, .ref (A 0)), (2, .ref (A 179)), (3, .ref (A 517)), (4, .int (Int32.ofInt i))]) (List.forall_mem_cons.mpr ⟨(List.Mem.tail _ (List.Mem.tail _ (List.Mem.head _))), (List.forall_mem_cons.mpr ⟨(List.Mem.tail _ (List.Mem.tail _ (List.Mem.tail _ (List.Mem.head _)))), (List.forall_mem_cons.mpr ⟨(List.Mem.tail _ (List.Mem.tail _ (List.Mem.tail _ (List.Mem.tail _ (List.Mem.head _))))), (List.forall_mem_cons.mpr ⟨(List.Mem.tail _ (List.Mem.tail _ (List.Mem.tail _ (List.Mem.tail _ (List.Mem.tail _ (List.Mem.head _)))))), (List.forall_mem_cons.mpr ⟨(List.Mem.tail _ (List.Mem.tail _ (List.Mem.tail _ (List.Mem.tail _ (List.Mem.tail _ (List.Mem.tail _ (List.Mem.head _))))))), (fun q h => absurd h List.not_mem_nil)⟩)⟩)⟩)⟩)⟩) (hk A _ Is17 JRLx_s17 JFEQ_s17 JRWJ_s17 JFTK_s17 jb23 JPTJ_s17 (by first | exact oq_f34933ba ws17_89 ws12_89 p1 b10.1 | omega) (by first | exact oq_d7ce4408 ws17_12 ws12_12 p2 | omega) (by first | (clear hps17 hps12; omega) | (clear hps12; omega) | omega) (by first | (clear hps17 hps12; omega) | (clear hps12; omega) | omega) (by first | exact oq_5bcdc35f ws17_98 ws17_20 ws12_98 ws12_20 p5 | omega) (by first | exact oq_5bcdc35f ws17_107 ws17_70 ws12_107 ws12_70 p6 | omega))
    ·
      exfalso
      omega
  ·
    rcases hM1 with mm | mm
    ·
      exfalso
      omega
    ·
      have jb24 : ARJ s17 := ⟨wqj_up jARJ.1 (Or.inl ⟨by first | (clear hps17 hps12; omega) | (clear hps12; omega) | omega, cc.2.2.2.2.1, cc.2.2.2.2.2⟩) (swm_fm Fs12 (by decide +kernel)) hM2 (sam_fm Fs17 (by decide)) (sam_fm Fs17 (by decide)) (by first | (clear hps17 hps12; omega) | (clear hps12; omega) | omega) (by first | (clear hps17 hps12; omega) | (clear hps12; omega) | omega) (by first | (clear hps17 hps12; omega) | (clear hps12; omega) | omega) (by first | (clear hps17 hps12; omega) | (clear hps12; omega) | omega) rfl ⟨by first | (clear hps17 hps12; omega) | (clear hps12; omega) | omega, by first | (clear hps17 hps12; omega) | (clear hps12; omega) | omega⟩ I, lij_up hM2 JLIJ_s12 (by first | (clear hps17 hps12; omega) | (clear hps12; omega) | omega) (by first | (clear hps17 hps12; omega) | (clear hps12; omega) | omega), JMQJ_s17, nzj_st jARJ.2.2.2.1 (by first | (clear hps17 hps12; omega) | (clear hps12; omega) | omega) (sam_ts (sam_fm Fs12 (by decide +kernel) : SAM 8 _ _) (sam_fm Fs17 (by decide +kernel))), twj_st jARJ.2.2.2.2.1 jARJ.2.2.2.1 jARJ.2.2.1.1 (by first | (clear hps17 hps12; omega) | (clear hps12; omega) | omega) (by first | (clear hps17 hps12; omega) | (clear hps12; omega) | omega) (by first | (clear hps17 hps12; omega) | (clear hps12; omega) | omega) (sam_ts (sam_fm Fs12 (by decide +kernel) : SAM 14 _ _) (sam_fm Fs17 (by decide +kernel))) (sam_ts (sam_fm Fs12 (by decide +kernel) : SAM 11 _ _) (sam_fm Fs17 (by decide +kernel))), JAIR_s17, JCPL_s17, JRLJ_s17⟩
      refine z_store X (lv' := [(6, .int (Int32.ofInt e18)), (5, .int (Int32.ofInt e13)), (0, .ref q1), (1, .ref (A 0)), (2, .ref (A 179)), (3, .ref (A 517)), (4, .int (Int32.ofInt i))]) rfl (by decide) (fun _ h => h) (z_goto X (t := 1894) rfl rfl (w_widen (ce' := ce + 29) (sl' := sl + 222) (by first | exact Nat.le_add_right _ _ | exact Nat.add_le_add_left (by decide) _ | omega) (by first | exact Nat.le_add_right _ _ | exact Nat.add_le_add_left (by decide) _ | omega) ?_))
      exact WS_lv (lv := [(0, .ref q1), (1, .ref (A 0)), (2, .ref (A 179)), (3, .ref (A 517)), (4, .int (Int32.ofInt i))]) (List.forall_mem_cons.mpr ⟨(List.Mem.tail _ (List.Mem.tail _ (List.Mem.head _))), (List.forall_mem_cons.mpr ⟨(List.Mem.tail _ (List.Mem.tail _ (List.Mem.tail _ (List.Mem.head _)))), (List.forall_mem_cons.mpr ⟨(List.Mem.tail _ (List.Mem.tail _ (List.Mem.tail _ (List.Mem.tail _ (List.Mem.head _))))), (List.forall_mem_cons.mpr ⟨(List.Mem.tail _ (List.Mem.tail _ (List.Mem.tail _ (List.Mem.tail _ (List.Mem.tail _ (List.Mem.head _)))))), (List.forall_mem_cons.mpr ⟨(List.Mem.tail _ (List.Mem.tail _ (List.Mem.tail _ (List.Mem.tail _ (List.Mem.tail _ (List.Mem.tail _ (List.Mem.head _))))))), (fun q h => absurd h List.not_mem_nil)⟩)⟩)⟩)⟩)⟩) (hk A _ Is17 JRLx_s17 JFEQ_s17 JRWJ_s17 JFTK_s17 jb24 JPTJ_s17 (by first | exact oq_f34933ba ws17_89 ws12_89 p1 b10.1 | omega) (by first | exact oq_d7ce4408 ws17_12 ws12_12 p2 | omega) (by first | (clear hps17 hps12; omega) | (clear hps12; omega) | omega) (by first | (clear hps17 hps12; omega) | (clear hps12; omega) | omega) (by first | exact oq_5bcdc35f ws17_98 ws17_20 ws12_98 ws12_20 p5 | omega) (by first | exact oq_5bcdc35f ws17_107 ws17_70 ws12_107 ws12_70 p6 | omega))
theorem lc_2 (G : GX l s0 D tys a0 dT) (GR : RS0 s0) (SF : SF0 s0) (GT : TXs0 s0) (GW : TXw0 s0) {k : kx_T} (X : AX k 350 dT) (E : kL k = l ∧ kS0 k = s0 ∧ kD k = D ∧ kR k = room_1) {q1 L : Nat} {xs : Nat → Int32} (S : SX k q1 L xs) (hL : L ≤ 3072) (I : Bd s) (jR : RLx s) (jFEQ : FEQ s) (jRWJ : RWJ s) (jFTK : FTK s) (jARJ : ARJ s) (jPTJ : PTJ s) (p1 : iI s 89 = 1) (p2 : iI s 12 ≤ 8) (p3 : iI s 0 = iI s 74) (p4 : iI s 9 = iI s 90) (p5 : iI s 20 = iI s 98) (p6 : iI s 70 = iI s 107) {i : Int} (hi : 0 ≤ i ∧ i + 6 ≤ (L : Int)) {ce sl : Nat} (hce : ce + 29 ≤ 601024) (hsl : sl + 222 ≤ 7293034) (hk : ∀ (A : Nat → Nat) (t : PS), Bd t → RLx t → FEQ t → RWJ t → FTK t → ARJ t → PTJ t → iI t 89 = 1 → iI t 12 ≤ 8 → iI t 0 = iI t 74 → iI t 9 = iI t 90 → iI t 20 = iI t 98 → iI t 70 = iI t 107 → WS k 1894 [(0, .ref q1), (1, .ref (A 0)), (2, .ref (A 179)), (3, .ref (A 517)), (4, .int (Int32.ofInt i))] [] (Wd A dT t) (ce + 29) (sl + 222)) : WS k 333 [(0, .ref q1), (1, .ref (A 0)), (2, .ref (A 179)), (3, .ref (A 517)), (4, .int (Int32.ofInt i))] [] (Wd A dT s) ce sl := by
  have F : Fm [2, 4, 6, 5, 7, 8, 19, 16, 17, 18, 12, 13, 14, 15, 1, 3, 0, 73, 74, 76, 82, 83, 84, 85, 77, 75, 78, 79, 80, 81, 86, 87, 88] [16, 17, 18, 19, 1460, 160, 159, 158] s s := fm_rf _ _ s
  have b1 := bi_0 I
  have b2 := bi_74 I
  have b3 := bi_9 I
  have b4 := bi_90 I
  have b5 := bi_20 I
  have b6 := bi_98 I
  have b7 := bi_70 I
  have b8 := bi_107 I
  have b9 := bi_12 I
  have b10 := bi_89 I
  refine z_aload_n X (x := A 0) rfl (List.Mem.tail _ (List.Mem.head _)) (z_aload_n X (x := q1) rfl (List.Mem.head _) (z_load X (x := i) rfl (List.Mem.tail _ (List.Mem.tail _ (List.Mem.tail _ (List.Mem.tail _ (List.Mem.head _))))) (z_const X rfl (z_add X rfl (z_sld X S hL rfl (show 0 ≤ (i + 1) ∧ (i + 1) < (L : Int) by first | exact sx_in hi (by decide) | omega) ?_)))))
  have sr11 : rng (sc xs (i + 1)) := sc_rng
  refine z_aload_n X (x := A 517) rfl (List.Mem.tail _ (List.Mem.tail _ (List.Mem.tail _ (List.Mem.head _)))) (z_callL X (rm := rmN 315) (As := [.ref (A 0), .int (Int32.ofInt (sc xs (i + 1))), .ref (A 517)]) (st := []) rfl (by decide) rfl (by rw [E.1, E.2.1, E.2.2.1]; exact lw_rules4 (B := (fun i => iC s 0 i)) G SF GW I (fun _ _ => rfl) (by omega) (by omega)) ⟨by rw [E.2.2.2]; exact (show 71 + 1 ≤ 2048 by decide), by rw [E.2.2.2]; exact (show 8 + (4 + 11) + 3060 ≤ 84000 by decide), by rw [E.2.2.2]; exact (show ce + 1 ≤ 601024 by first | exact rmo_1 hce (by decide) | exact rmo_2 hce (by decide) | omega), by rw [E.2.2.2]; exact (show sl + 6 ≤ 7293034 by first | exact rmo_1 hsl (by decide) | exact rmo_2 hsl (by decide) | omega)⟩ (Nat.le_of_ble_eq_true rfl) (fun vv A s12 hA2 hq => ?_) (fun ee A s12 hA2 hq => ?_))
  rotate_left
  · obtain ⟨Is12, Fs12, e13, hv, hrs12, hps12⟩ := hq; cases hv
  obtain ⟨Is12, Fs12, e13, hv, hrs12, hps12⟩ := hq
  have hps12p := hps12.2
  cases hv
  rw [← hA2 0 (by decide)]
  rw [← hA2 179 (by decide)]
  rw [← hA2 517 (by decide)]
  have JRLx_s12 : RLx s12 := RLx_fm Fs12 (by decide) jR
  have JFEQ_s12 : FEQ s12 := FEQ_fm Fs12 (by decide) jFEQ
  have JRWJ_s12 : RWJ s12 := RWJ_fm Fs12 (by decide +kernel) jRWJ
  have JFTK_s12 : FTK s12 := FTK_fm Fs12 (by decide) jFTK
  have JPTJ_s12 : PTJ s12 := PTJ_fm Fs12 (by decide +kernel) jPTJ
  have JWQJ_s12 : WQJ s12 := WQJ_fm Fs12 (by decide +kernel) jARJ.1
  have JLIJ_s12 : LIJ s12 := LIJ_fm Fs12 (by decide +kernel) jARJ.2.1
  have JMQJ_s12 : MQJ s12 := MQJ_fm Fs12 (by decide +kernel) jARJ.2.2.1
  have JNZJ_s12 : NZJ s12 := NZJ_fm Fs12 (by decide) jARJ.2.2.2.1
  have JTWJ_s12 : TWJ s12 := TWJ_fm Fs12 (by decide +kernel) jARJ.2.2.2.2.1
  have JAIR_s12 : AIR s12 := AIR_fm Fs12 (by decide +kernel) jARJ.2.2.2.2.2.1
  have JCPL_s12 : CPL s12 := CPL_fm Fs12 (by decide +kernel) jARJ.2.2.2.2.2.2.1
  have b14 := bi_0 Is12
  have ws12_74 : iI s12 74 = iI s 74 := fm_iq Fs12 rfl
  have ws12_9 : iI s12 9 = iI s 9 := fm_iq Fs12 rfl
  have ws12_90 : iI s12 90 = iI s 90 := fm_iq Fs12 rfl
  have ws12_20 : iI s12 20 = iI s 20 := fm_iq Fs12 rfl
  have ws12_98 : iI s12 98 = iI s 98 := fm_iq Fs12 rfl
  have ws12_70 : iI s12 70 = iI s 70 := fm_iq Fs12 rfl
  have ws12_107 : iI s12 107 = iI s 107 := fm_iq Fs12 rfl
  have b15 := bi_12 Is12
  have ws12_89 : iI s12 89 = iI s 89 := fm_iq Fs12 rfl
  show WS k 344 [(0, .ref q1), (1, .ref (A 0)), (2, .ref (A 179)), (3, .ref (A 517)), (4, .int (Int32.ofInt i))] [.int (Int32.ofInt e13)] (Wd A dT s12) (ce + 1) (sl + 6)
  refine z_store X (lv' := [(5, .int (Int32.ofInt e13)), (0, .ref q1), (1, .ref (A 0)), (2, .ref (A 179)), (3, .ref (A 517)), (4, .int (Int32.ofInt i))]) rfl (by decide) (fun _ h => h) (z_aload_n X (x := A 179) rfl (List.Mem.tail _ (List.Mem.tail _ (List.Mem.tail _ (List.Mem.head _)))) (z_aload_n X (x := q1) rfl (List.Mem.tail _ (List.Mem.head _)) (z_load X (x := i) rfl (List.Mem.tail _ (List.Mem.tail _ (List.Mem.tail _ (List.Mem.tail _ (List.Mem.tail _ (List.Mem.head _)))))) (z_const X rfl (z_add X rfl (z_sld X S hL rfl (show 0 ≤ (i + 1) ∧ (i + 1) < (L : Int) by first | exact sx_in hi (by decide) | omega) ?_))))))
  have sr16 : rng (sc xs (i + 1)) := sc_rng
  have hFD : FDA (fun i => iC s 0 i) s12 := fun i hi => (fm_c Fs12 (by decide)).trans (jFEQ i hi)
  refine z_callV X 179 (rm := rmN 214) (As := [.int (Int32.ofInt (sc xs (i + 1)))]) (st := []) rfl rfl (by decide) rfl (by rw [E.1, E.2.1, E.2.2.1]; exact k_rules4 (B := (fun i => iC s 0 i)) G Is12 hFD (by first | exact ⟨sr16.1, sr16.2⟩ | omega)) ⟨by rw [E.2.2.2]; exact (show 61 + 1 ≤ 2048 from oq_0ed3bd18), by rw [E.2.2.2]; exact (show 8 + (3 + 11) + 2660 ≤ 84000 from oq_735d5381), by rw [E.2.2.2]; exact (show (ce + 1) + 0 ≤ 601024 by first | (clear hps12; omega) | omega), by rw [E.2.2.2]; exact (show (sl + 6) + 0 ≤ 7293034 by first | (clear hps12; omega) | omega)⟩ (Nat.le_of_ble_eq_true rfl) (fun vv s17 hq => ?_) (fun ee s17 hq => ?_)
  rotate_left
  · obtain ⟨Is17, Fs17, JFDA_s17, e18, hv, hrs17, hps17⟩ := hq; cases hv
  obtain ⟨Is17, Fs17, JFDA_s17, e18, hv, hrs17, hps17⟩ := hq
  cases hv
  have JRLx_s17 : RLx s17 := RLx_fm Fs17 (by decide) JRLx_s12
  have JFEQ_s17 : FEQ s17 := FEQ_fm Fs17 (by decide) JFEQ_s12
  have JRWJ_s17 : RWJ s17 := RWJ_fm Fs17 (by decide +kernel) JRWJ_s12
  have JFTK_s17 : FTK s17 := FTK_fm Fs17 (by decide) JFTK_s12
  have JPTJ_s17 : PTJ s17 := PTJ_fm Fs17 (by decide +kernel) JPTJ_s12
  have JWQJ_s17 : WQJ s17 := WQJ_fm Fs17 (by decide +kernel) JWQJ_s12
  have JLIJ_s17 : LIJ s17 := LIJ_fm Fs17 (by decide +kernel) JLIJ_s12
  have JMQJ_s17 : MQJ s17 := MQJ_fm Fs17 (by decide +kernel) JMQJ_s12
  have JNZJ_s17 : NZJ s17 := NZJ_fm Fs17 (by decide) JNZJ_s12
  have JTWJ_s17 : TWJ s17 := TWJ_fm Fs17 (by decide +kernel) JTWJ_s12
  have JAIR_s17 : AIR s17 := AIR_fm Fs17 (by decide +kernel) JAIR_s12
  have JCPL_s17 : CPL s17 := CPL_fm Fs17 (by decide +kernel) JCPL_s12
  have JFDA_s17 : FDA (fun i => iC s 0 i) s17 := FDA_fm Fs17 (by decide) hFD
  have ws17_0 : iI s17 0 = iI s12 0 := fm_iq Fs17 rfl
  have b19 := bi_74 Is17
  have ws17_9 : iI s17 9 = iI s12 9 := fm_iq Fs17 rfl
  have ws17_90 : iI s17 90 = iI s12 90 := fm_iq Fs17 rfl
  have ws17_20 : iI s17 20 = iI s12 20 := fm_iq Fs17 rfl
  have ws17_98 : iI s17 98 = iI s12 98 := fm_iq Fs17 rfl
  have ws17_70 : iI s17 70 = iI s12 70 := fm_iq Fs17 rfl
  have ws17_107 : iI s17 107 = iI s12 107 := fm_iq Fs17 rfl
  have ws17_12 : iI s17 12 = iI s12 12 := fm_iq Fs17 rfl
  have ws17_89 : iI s17 89 = iI s12 89 := fm_iq Fs17 rfl
  have wos17 : iO s17 = iO s12 := fm_o Fs17 (by decide)
  show WS k 356 [(5, .int (Int32.ofInt e13)), (0, .ref q1), (1, .ref (A 0)), (2, .ref (A 179)), (3, .ref (A 517)), (4, .int (Int32.ofInt i))] [.int (Int32.ofInt e18)] (Wd A dT s17) (ce + 1) (sl + 6)
  have hC8 := hps12.2
  rcases hps12.1 with cc | cc
  ·
    rcases hps17 with mm | mm
    ·
      have hRB := rl_both jARJ.2.2.2.2.2.2.2 cc.2.2.2.2 mm.2.2.2.2 (fm_i Fs17 (by decide +kernel)) (fm_i Fs17 (by decide +kernel)) (sam_fm Fs17 (by decide +kernel)) (sam_fm Fs17 (by decide +kernel)) (fm_i Fs12 (by decide +kernel)) (fm_i Fs12 (by decide +kernel)) (sam_fm Fs12 (by decide +kernel))
      have rq20 := hRB.1
      have jb21 : ARJ s17 := ⟨JWQJ_s17, JLIJ_s17, JMQJ_s17, JNZJ_s17, JTWJ_s17, JAIR_s17, JCPL_s17, hRB.2⟩
      refine z_store X (lv' := [(6, .int (Int32.ofInt e18)), (5, .int (Int32.ofInt e13)), (0, .ref q1), (1, .ref (A 0)), (2, .ref (A 179)), (3, .ref (A 517)), (4, .int (Int32.ofInt i))]) rfl (by decide) (fun _ h => h) (z_goto X (t := 1894) rfl rfl (w_widen (ce' := ce + 29) (sl' := sl + 222) (by first | exact Nat.le_add_right _ _ | exact Nat.add_le_add_left (by decide) _ | omega) (by first | exact Nat.le_add_right _ _ | exact Nat.add_le_add_left (by decide) _ | omega) ?_))
      exact WS_lv (lv := [(0, .ref q1), (1, .ref (A 0)), (2, .ref (A 179)), (3, .ref (A 517)), (4, .int (Int32.ofInt i))]) (List.forall_mem_cons.mpr ⟨(List.Mem.tail _ (List.Mem.tail _ (List.Mem.head _))), (List.forall_mem_cons.mpr ⟨(List.Mem.tail _ (List.Mem.tail _ (List.Mem.tail _ (List.Mem.head _)))), (List.forall_mem_cons.mpr ⟨(List.Mem.tail _ (List.Mem.tail _ (List.Mem.tail _ (List.Mem.tail _ (List.Mem.head _))))), (List.forall_mem_cons.mpr ⟨(List.Mem.tail _ (List.Mem.tail _ (List.Mem.tail _ (List.Mem.tail _ (List.Mem.tail _ (List.Mem.head _)))))), (List.forall_mem_cons.mpr ⟨(List.Mem.tail _ (List.Mem.tail _ (List.Mem.tail _ (List.Mem.tail _ (List.Mem.tail _ (List.Mem.tail _ (List.Mem.head _))))))), (fun q h => absurd h List.not_mem_nil)⟩)⟩)⟩)⟩)⟩) (hk A _ Is17 JRLx_s17 JFEQ_s17 JRWJ_s17 JFTK_s17 jb21 JPTJ_s17 (by first | exact oq_f34933ba ws17_89 ws12_89 p1 b10.1 | omega) (by first | exact oq_86ef0b17 ws17_12 hps12.2 | omega) (by first | (clear hps17 hps12; omega) | (clear hps12; omega) | omega) (by first | exact oq_5bcdc35f ws17_90 ws17_9 ws12_90 ws12_9 p4 | omega) (by first | exact oq_5bcdc35f ws17_98 ws17_20 ws12_98 ws12_20 p5 | omega) (by first | exact oq_5bcdc35f ws17_107 ws17_70 ws12_107 ws12_70 p6 | omega))
    ·
      exfalso
      omega
  ·
    rcases hps17 with mm | mm
    ·
      exfalso
      omega
    ·
      have jb22 : ARJ s17 := ⟨JWQJ_s17, JLIJ_s17, JMQJ_s17, JNZJ_s17, JTWJ_s17, JAIR_s17, JCPL_s17, rlj_s jARJ.2.2.2.2.2.2.2 ((fm_i Fs17 (by decide +kernel)).trans cc.2.2.2.1) ((fm_i Fs17 (by decide +kernel)).trans cc.2.2.2.2.1) (sam_ts cc.2.2.2.2.2.1 (sam_fm Fs17 (by decide +kernel))) (sam_ts cc.2.2.2.2.2.2 (sam_fm Fs17 (by decide +kernel))) (mm.2.2.2.1.trans (fm_i Fs12 (by decide +kernel))) (mm.2.2.2.2.1.trans (fm_i Fs12 (by decide +kernel))) (sam_ts (sam_fm Fs12 (by decide +kernel)) mm.2.2.2.2.2)⟩
      refine z_store X (lv' := [(6, .int (Int32.ofInt e18)), (5, .int (Int32.ofInt e13)), (0, .ref q1), (1, .ref (A 0)), (2, .ref (A 179)), (3, .ref (A 517)), (4, .int (Int32.ofInt i))]) rfl (by decide) (fun _ h => h) (z_goto X (t := 1894) rfl rfl (w_widen (ce' := ce + 29) (sl' := sl + 222) (by first | exact Nat.le_add_right _ _ | exact Nat.add_le_add_left (by decide) _ | omega) (by first | exact Nat.le_add_right _ _ | exact Nat.add_le_add_left (by decide) _ | omega) ?_))
      exact WS_lv (lv := [(0, .ref q1), (1, .ref (A 0)), (2, .ref (A 179)), (3, .ref (A 517)), (4, .int (Int32.ofInt i))]) (List.forall_mem_cons.mpr ⟨(List.Mem.tail _ (List.Mem.tail _ (List.Mem.head _))), (List.forall_mem_cons.mpr ⟨(List.Mem.tail _ (List.Mem.tail _ (List.Mem.tail _ (List.Mem.head _)))), (List.forall_mem_cons.mpr ⟨(List.Mem.tail _ (List.Mem.tail _ (List.Mem.tail _ (List.Mem.tail _ (List.Mem.head _))))), (List.forall_mem_cons.mpr ⟨(List.Mem.tail _ (List.Mem.tail _ (List.Mem.tail _ (List.Mem.tail _ (List.Mem.tail _ (List.Mem.head _)))))), (List.forall_mem_cons.mpr ⟨(List.Mem.tail _ (List.Mem.tail _ (List.Mem.tail _ (List.Mem.tail _ (List.Mem.tail _ (List.Mem.tail _ (List.Mem.head _))))))), (fun q h => absurd h List.not_mem_nil)⟩)⟩)⟩)⟩)⟩) (hk A _ Is17 JRLx_s17 JFEQ_s17 JRWJ_s17 JFTK_s17 jb22 JPTJ_s17 (by first | exact oq_f34933ba ws17_89 ws12_89 p1 b10.1 | omega) (by first | exact oq_86ef0b17 ws17_12 hps12.2 | omega) (by first | (clear hps17 hps12; omega) | (clear hps12; omega) | omega) (by first | exact oq_5bcdc35f ws17_90 ws17_9 ws12_90 ws12_9 p4 | omega) (by first | exact oq_5bcdc35f ws17_98 ws17_20 ws12_98 ws12_20 p5 | omega) (by first | exact oq_5bcdc35f ws17_107 ws17_70 ws12_107 ws12_70 p6 | omega))
theorem lc_3 (G : GX l s0 D tys a0 dT) (GR : RS0 s0) (SF : SF0 s0) (GT : TXs0 s0) (GW : TXw0 s0) {k : kx_T} (X : AX k 350 dT) (E : kL k = l ∧ kS0 k = s0 ∧ kD k = D ∧ kR k = room_1) {q1 L : Nat} {xs : Nat → Int32} (S : SX k q1 L xs) (hL : L ≤ 3072) (I : Bd s) (jR : RLx s) (jFEQ : FEQ s) (jRWJ : RWJ s) (jFTK : FTK s) (jARJ : ARJ s) (jPTJ : PTJ s) (p1 : iI s 89 = 1) (p2 : iI s 12 ≤ 8) (p3 : iI s 0 = iI s 74) (p4 : iI s 9 = iI s 90) (p5 : iI s 20 = iI s 98) (p6 : iI s 70 = iI s 107) {i : Int} (hi : 0 ≤ i ∧ i + 6 ≤ (L : Int)) {ce sl : Nat} (hce : ce + 29 ≤ 601024) (hsl : sl + 222 ≤ 7293034) (hk : ∀ (A : Nat → Nat) (t : PS), Bd t → RLx t → FEQ t → RWJ t → FTK t → ARJ t → PTJ t → iI t 89 = 1 → iI t 12 ≤ 8 → iI t 0 = iI t 74 → iI t 9 = iI t 90 → iI t 20 = iI t 98 → iI t 70 = iI t 107 → WS k 1894 [(0, .ref q1), (1, .ref (A 0)), (2, .ref (A 179)), (3, .ref (A 517)), (4, .int (Int32.ofInt i))] [] (Wd A dT t) (ce + 29) (sl + 222)) : WS k 361 [(0, .ref q1), (1, .ref (A 0)), (2, .ref (A 179)), (3, .ref (A 517)), (4, .int (Int32.ofInt i))] [] (Wd A dT s) ce sl := by
  have F : Fm [73] [] s s := fm_rf _ _ s
  have b1 := bi_0 I
  have b2 := bi_74 I
  have b3 := bi_9 I
  have b4 := bi_90 I
  have b5 := bi_20 I
  have b6 := bi_98 I
  have b7 := bi_70 I
  have b8 := bi_107 I
  have b9 := bi_12 I
  have b10 := bi_89 I
  refine z_aload_n X (x := A 0) rfl (List.Mem.tail _ (List.Mem.head _)) (z_callV X 0 (rm := rmN 138) (As := []) (st := []) rfl rfl (by decide) rfl (by rw [E.1, E.2.1, E.2.2.1]; exact cs_fault G I ) ⟨by rw [E.2.2.2]; exact (show 6 + 1 ≤ 2048 from oq_4d34cb53), by rw [E.2.2.2]; exact (show 8 + (1 + 11) + 100 ≤ 84000 from oq_a32dccc4), by rw [E.2.2.2]; exact (show ce + 0 ≤ 601024 by omega), by rw [E.2.2.2]; exact (show sl + 0 ≤ 7293034 by omega)⟩ (Nat.le_of_ble_eq_true rfl) (fun vv s11 hq => ?_) (fun ee s11 hq => ?_))
  rotate_left
  · obtain ⟨Is11, Fs11, e12, hv, hrs11, hps11⟩ := hq; cases hv
  obtain ⟨Is11, Fs11, e12, hv, hrs11, hps11⟩ := hq
  cases hv
  have JRLx_s11 : RLx s11 := RLx_fm Fs11 (by decide) jR
  have JFEQ_s11 : FEQ s11 := FEQ_fm Fs11 (by decide) jFEQ
  have JRWJ_s11 : RWJ s11 := RWJ_fm Fs11 (by decide +kernel) jRWJ
  have JFTK_s11 : FTK s11 := FTK_fm Fs11 (by decide) jFTK
  have JARJ_s11 : ARJ s11 := ARJ_fm Fs11 ⟨by decide +kernel, by decide +kernel, by decide +kernel, by decide +kernel, by decide +kernel, by decide +kernel, by decide +kernel, by decide +kernel⟩ jARJ
  have JPTJ_s11 : PTJ s11 := PTJ_fm Fs11 (by decide +kernel) jPTJ
  have ws11_0 : iI s11 0 = iI s 0 := fm_iq Fs11 rfl
  have ws11_74 : iI s11 74 = iI s 74 := fm_iq Fs11 rfl
  have ws11_9 : iI s11 9 = iI s 9 := fm_iq Fs11 rfl
  have ws11_90 : iI s11 90 = iI s 90 := fm_iq Fs11 rfl
  have ws11_20 : iI s11 20 = iI s 20 := fm_iq Fs11 rfl
  have ws11_98 : iI s11 98 = iI s 98 := fm_iq Fs11 rfl
  have ws11_70 : iI s11 70 = iI s 70 := fm_iq Fs11 rfl
  have ws11_107 : iI s11 107 = iI s 107 := fm_iq Fs11 rfl
  have ws11_12 : iI s11 12 = iI s 12 := fm_iq Fs11 rfl
  have ws11_89 : iI s11 89 = iI s 89 := fm_iq Fs11 rfl
  have wos11 : iO s11 = iO s := fm_o Fs11 (by decide)
  show WS k 365 [(0, .ref q1), (1, .ref (A 0)), (2, .ref (A 179)), (3, .ref (A 517)), (4, .int (Int32.ofInt i))] [.int (Int32.ofInt e12)] (Wd A dT s11) ce sl
  refine w_pop X.1 (ax_d X (show cdA 350 365 = some (.pop, 1, 0, 0, 0) from rfl)) rfl (z_aload_n X (x := A 179) rfl (List.Mem.tail _ (List.Mem.tail _ (List.Mem.head _))) (z_callV X 179 (rm := rmN 215) (As := []) (st := []) rfl rfl (by decide) rfl (by rw [E.1, E.2.1, E.2.2.1]; exact k_fault G Is11 ) ⟨by rw [E.2.2.2]; exact (show 6 + 1 ≤ 2048 from oq_4d34cb53), by rw [E.2.2.2]; exact (show 8 + (1 + 11) + 100 ≤ 84000 from oq_a32dccc4), by rw [E.2.2.2]; exact (show ce + 0 ≤ 601024 by omega), by rw [E.2.2.2]; exact (show sl + 0 ≤ 7293034 by omega)⟩ (Nat.le_of_ble_eq_true rfl) (fun vv s13 hq => ?_) (fun ee s13 hq => ?_)))
  rotate_left
  · obtain ⟨Is13, Fs13, e14, hv, hrs13, hps13⟩ := hq; cases hv
  obtain ⟨Is13, Fs13, e14, hv, hrs13, hps13⟩ := hq
  cases hv
  have JRLx_s13 : RLx s13 := RLx_fm Fs13 (by decide) JRLx_s11
  have JFEQ_s13 : FEQ s13 := FEQ_fm Fs13 (by decide) JFEQ_s11
  have JRWJ_s13 : RWJ s13 := RWJ_fm Fs13 (by decide +kernel) JRWJ_s11
  have JFTK_s13 : FTK s13 := FTK_fm Fs13 (by decide) JFTK_s11
  have JARJ_s13 : ARJ s13 := ARJ_fm Fs13 ⟨by decide +kernel, by decide +kernel, by decide +kernel, by decide +kernel, by decide +kernel, by decide +kernel, by decide +kernel, by decide +kernel⟩ JARJ_s11
  have JPTJ_s13 : PTJ s13 := PTJ_fm Fs13 (by decide +kernel) JPTJ_s11
  have ws13_0 : iI s13 0 = iI s11 0 := fm_iq Fs13 rfl
  have ws13_74 : iI s13 74 = iI s11 74 := fm_iq Fs13 rfl
  have ws13_9 : iI s13 9 = iI s11 9 := fm_iq Fs13 rfl
  have ws13_90 : iI s13 90 = iI s11 90 := fm_iq Fs13 rfl
  have ws13_20 : iI s13 20 = iI s11 20 := fm_iq Fs13 rfl
  have ws13_98 : iI s13 98 = iI s11 98 := fm_iq Fs13 rfl
  have ws13_70 : iI s13 70 = iI s11 70 := fm_iq Fs13 rfl
  have ws13_107 : iI s13 107 = iI s11 107 := fm_iq Fs13 rfl
  have ws13_12 : iI s13 12 = iI s11 12 := fm_iq Fs13 rfl
  have ws13_89 : iI s13 89 = iI s11 89 := fm_iq Fs13 rfl
  have wos13 : iO s13 = iO s11 := fm_o Fs13 (by decide)
  show WS k 370 [(0, .ref q1), (1, .ref (A 0)), (2, .ref (A 179)), (3, .ref (A 517)), (4, .int (Int32.ofInt i))] [.int (Int32.ofInt e14)] (Wd A dT s13) ce sl
  refine w_pop X.1 (ax_d X (show cdA 350 370 = some (.pop, 1, 0, 0, 0) from rfl)) rfl (z_goto X (t := 1894) rfl rfl (w_widen (ce' := ce + 29) (sl' := sl + 222) (by first | exact Nat.le_add_right _ _ | exact Nat.add_le_add_left (by decide) _ | omega) (by first | exact Nat.le_add_right _ _ | exact Nat.add_le_add_left (by decide) _ | omega) ?_))
  exact WS_lv (lv := [(0, .ref q1), (1, .ref (A 0)), (2, .ref (A 179)), (3, .ref (A 517)), (4, .int (Int32.ofInt i))]) (List.forall_mem_cons.mpr ⟨(List.Mem.head _), (List.forall_mem_cons.mpr ⟨(List.Mem.tail _ (List.Mem.head _)), (List.forall_mem_cons.mpr ⟨(List.Mem.tail _ (List.Mem.tail _ (List.Mem.head _))), (List.forall_mem_cons.mpr ⟨(List.Mem.tail _ (List.Mem.tail _ (List.Mem.tail _ (List.Mem.head _)))), (List.forall_mem_cons.mpr ⟨(List.Mem.tail _ (List.Mem.tail _ (List.Mem.tail _ (List.Mem.tail _ (List.Mem.head _))))), (fun q h => absurd h List.not_mem_nil)⟩)⟩)⟩)⟩)⟩) (hk A _ Is13 JRLx_s13 JFEQ_s13 JRWJ_s13 JFTK_s13 JARJ_s13 JPTJ_s13 (by first | exact oq_f34933ba ws13_89 ws11_89 p1 b10.1 | omega) (by first | exact oq_d7ce4408 ws13_12 ws11_12 p2 | omega) (by first | exact oq_5bcdc35f ws13_74 ws13_0 ws11_74 ws11_0 p3 | omega) (by first | exact oq_5bcdc35f ws13_90 ws13_9 ws11_90 ws11_9 p4 | omega) (by first | exact oq_5bcdc35f ws13_98 ws13_20 ws11_98 ws11_20 p5 | omega) (by first | exact oq_5bcdc35f ws13_107 ws13_70 ws11_107 ws11_70 p6 | omega))
theorem lc_4 (G : GX l s0 D tys a0 dT) (GR : RS0 s0) (SF : SF0 s0) (GT : TXs0 s0) (GW : TXw0 s0) {k : kx_T} (X : AX k 350 dT) (E : kL k = l ∧ kS0 k = s0 ∧ kD k = D ∧ kR k = room_1) {q1 L : Nat} {xs : Nat → Int32} (S : SX k q1 L xs) (hL : L ≤ 3072) (I : Bd s) (jR : RLx s) (jFEQ : FEQ s) (jRWJ : RWJ s) (jFTK : FTK s) (jARJ : ARJ s) (jPTJ : PTJ s) (p1 : iI s 89 = 1) (p2 : iI s 12 ≤ 8) (p3 : iI s 0 = iI s 74) (p4 : iI s 9 = iI s 90) (p5 : iI s 20 = iI s 98) (p6 : iI s 70 = iI s 107) {i : Int} (hi : 0 ≤ i ∧ i + 6 ≤ (L : Int)) {ce sl : Nat} (hce : ce + 29 ≤ 601024) (hsl : sl + 222 ≤ 7293034) (hk : ∀ (A : Nat → Nat) (t : PS), Bd t → RLx t → FEQ t → RWJ t → FTK t → ARJ t → PTJ t → iI t 89 = 1 → iI t 12 ≤ 8 → iI t 0 = iI t 74 → iI t 9 = iI t 90 → iI t 20 = iI t 98 → iI t 70 = iI t 107 → WS k 1894 [(0, .ref q1), (1, .ref (A 0)), (2, .ref (A 179)), (3, .ref (A 517)), (4, .int (Int32.ofInt i))] [] (Wd A dT t) (ce + 29) (sl + 222)) : WS k 374 [(0, .ref q1), (1, .ref (A 0)), (2, .ref (A 179)), (3, .ref (A 517)), (4, .int (Int32.ofInt i))] [] (Wd A dT s) ce sl := by
  have F : Fm [73] [1460] s s := fm_rf _ _ s
  have b1 := bi_0 I
  have b2 := bi_74 I
  have b3 := bi_9 I
  have b4 := bi_90 I
  have b5 := bi_20 I
  have b6 := bi_98 I
  have b7 := bi_70 I
  have b8 := bi_107 I
  have b9 := bi_12 I
  have b10 := bi_89 I
  refine z_aload_n X (x := A 0) rfl (List.Mem.tail _ (List.Mem.head _)) (z_aload_n X (x := q1) rfl (List.Mem.head _) (z_load X (x := i) rfl (List.Mem.tail _ (List.Mem.tail _ (List.Mem.tail _ (List.Mem.tail _ (List.Mem.head _))))) (z_const X rfl (z_add X rfl (z_sld X S hL rfl (show 0 ≤ (i + 1) ∧ (i + 1) < (L : Int) by first | exact sx_in hi (by decide) | omega) ?_)))))
  have sr11 : rng (sc xs (i + 1)) := sc_rng
  refine z_aload_n X (x := q1) rfl (List.Mem.head _) (z_load X (x := i) rfl (List.Mem.tail _ (List.Mem.tail _ (List.Mem.tail _ (List.Mem.tail _ (List.Mem.head _))))) (z_const X rfl (z_add X rfl (z_sld X S hL rfl (show 0 ≤ (i + 2) ∧ (i + 2) < (L : Int) by first | exact sx_in hi (by decide) | omega) ?_))))
  have sr12 : rng (sc xs (i + 2)) := sc_rng
  refine z_aload_n X (x := A 517) rfl (List.Mem.tail _ (List.Mem.tail _ (List.Mem.tail _ (List.Mem.head _)))) (z_callL X (rm := rmN 316) (As := [.ref (A 0), .int (Int32.ofInt (sc xs (i + 1))), .int (Int32.ofInt (sc xs (i + 2))), .ref (A 517)]) (st := []) rfl (by decide) rfl (by rw [E.1, E.2.1, E.2.2.1]; exact lw_way2 G I (by omega) (by omega)) ⟨by rw [E.2.2.2]; exact (show 8 + 1 ≤ 2048 by decide), by rw [E.2.2.2]; exact (show 8 + (5 + 11) + 144 ≤ 84000 by decide), by rw [E.2.2.2]; exact (show ce + 1 ≤ 601024 by first | exact rmo_1 hce (by decide) | exact rmo_2 hce (by decide) | omega), by rw [E.2.2.2]; exact (show sl + 6 ≤ 7293034 by first | exact rmo_1 hsl (by decide) | exact rmo_2 hsl (by decide) | omega)⟩ (Nat.le_of_ble_eq_true rfl) (fun vv A s13 hA2 hq => ?_) (fun ee A s13 hA2 hq => ?_))
  rotate_left
  · obtain ⟨Is13, Fs13, e14, hv, hrs13, hps13⟩ := hq; cases hv
  obtain ⟨Is13, Fs13, e14, hv, hrs13, hps13⟩ := hq
  cases hv
  rw [← hA2 0 (by decide)]
  rw [← hA2 179 (by decide)]
  rw [← hA2 517 (by decide)]
  have JRLx_s13 : RLx s13 := RLx_fm Fs13 (by decide) jR
  have JFEQ_s13 : FEQ s13 := FEQ_fm Fs13 (by decide) jFEQ
  have JRWJ_s13 : RWJ s13 := RWJ_fm Fs13 (by decide +kernel) jRWJ
  have JFTK_s13 : FTK s13 := FTK_fm Fs13 (by decide) jFTK
  have JARJ_s13 : ARJ s13 := ARJ_fm Fs13 ⟨by decide +kernel, by decide +kernel, by decide +kernel, by decide +kernel, by decide +kernel, by decide +kernel, by decide +kernel, by decide +kernel⟩ jARJ
  have JPTJ_s13 : PTJ s13 := PTJ_fm Fs13 (by decide +kernel) jPTJ
  have ws13_0 : iI s13 0 = iI s 0 := fm_iq Fs13 rfl
  have ws13_74 : iI s13 74 = iI s 74 := fm_iq Fs13 rfl
  have ws13_9 : iI s13 9 = iI s 9 := fm_iq Fs13 rfl
  have ws13_90 : iI s13 90 = iI s 90 := fm_iq Fs13 rfl
  have ws13_20 : iI s13 20 = iI s 20 := fm_iq Fs13 rfl
  have ws13_98 : iI s13 98 = iI s 98 := fm_iq Fs13 rfl
  have ws13_70 : iI s13 70 = iI s 70 := fm_iq Fs13 rfl
  have ws13_107 : iI s13 107 = iI s 107 := fm_iq Fs13 rfl
  have ws13_12 : iI s13 12 = iI s 12 := fm_iq Fs13 rfl
  have ws13_89 : iI s13 89 = iI s 89 := fm_iq Fs13 rfl
  show WS k 391 [(0, .ref q1), (1, .ref (A 0)), (2, .ref (A 179)), (3, .ref (A 517)), (4, .int (Int32.ofInt i))] [.int (Int32.ofInt e14)] (Wd A dT s13) (ce + 1) (sl + 6)
  refine z_store X (lv' := [(5, .int (Int32.ofInt e14)), (0, .ref q1), (1, .ref (A 0)), (2, .ref (A 179)), (3, .ref (A 517)), (4, .int (Int32.ofInt i))]) rfl (by decide) (fun _ h => h) (z_aload_n X (x := A 179) rfl (List.Mem.tail _ (List.Mem.tail _ (List.Mem.tail _ (List.Mem.head _)))) (z_aload_n X (x := q1) rfl (List.Mem.tail _ (List.Mem.head _)) (z_load X (x := i) rfl (List.Mem.tail _ (List.Mem.tail _ (List.Mem.tail _ (List.Mem.tail _ (List.Mem.tail _ (List.Mem.head _)))))) (z_const X rfl (z_add X rfl (z_sld X S hL rfl (show 0 ≤ (i + 1) ∧ (i + 1) < (L : Int) by first | exact sx_in hi (by decide) | omega) ?_))))))
  have sr15 : rng (sc xs (i + 1)) := sc_rng
  refine z_aload_n X (x := q1) rfl (List.Mem.tail _ (List.Mem.head _)) (z_load X (x := i) rfl (List.Mem.tail _ (List.Mem.tail _ (List.Mem.tail _ (List.Mem.tail _ (List.Mem.tail _ (List.Mem.head _)))))) (z_const X rfl (z_add X rfl (z_sld X S hL rfl (show 0 ≤ (i + 2) ∧ (i + 2) < (L : Int) by first | exact sx_in hi (by decide) | omega) ?_))))
  have sr16 : rng (sc xs (i + 2)) := sc_rng
  refine z_callV X 179 (rm := rmN 217) (As := [.int (Int32.ofInt (sc xs (i + 1))), .int (Int32.ofInt (sc xs (i + 2)))]) (st := []) rfl rfl (by decide) rfl (by rw [E.1, E.2.1, E.2.2.1]; exact k_way2 G Is13 (by first | exact ⟨sr15.1, sr15.2⟩ | omega) (by first | exact ⟨sr16.1, sr16.2⟩ | omega)) ⟨by rw [E.2.2.2]; exact (show 7 + 1 ≤ 2048 from oq_4e6106eb), by rw [E.2.2.2]; exact (show 8 + (3 + 11) + 122 ≤ 84000 from oq_38d194b9), by rw [E.2.2.2]; exact (show (ce + 1) + 0 ≤ 601024 by first | (clear hps13; omega) | omega), by rw [E.2.2.2]; exact (show (sl + 6) + 0 ≤ 7293034 by first | (clear hps13; omega) | omega)⟩ (Nat.le_of_ble_eq_true rfl) (fun vv s17 hq => ?_) (fun ee s17 hq => ?_)
  rotate_left
  · obtain ⟨Is17, Fs17, e18, hv, hrs17, hps17⟩ := hq; cases hv
  obtain ⟨Is17, Fs17, e18, hv, hrs17, hps17⟩ := hq
  cases hv
  have JRLx_s17 : RLx s17 := RLx_fm Fs17 (by decide) JRLx_s13
  have JFEQ_s17 : FEQ s17 := FEQ_fm Fs17 (by decide) JFEQ_s13
  have JRWJ_s17 : RWJ s17 := RWJ_fm Fs17 (by decide +kernel) JRWJ_s13
  have JFTK_s17 : FTK s17 := FTK_fm Fs17 (by decide) JFTK_s13
  have JARJ_s17 : ARJ s17 := ARJ_fm Fs17 ⟨by decide +kernel, by decide +kernel, by decide +kernel, by decide +kernel, by decide +kernel, by decide +kernel, by decide +kernel, by decide +kernel⟩ JARJ_s13
  have JPTJ_s17 : PTJ s17 := PTJ_fm Fs17 (by decide +kernel) JPTJ_s13
  have ws17_0 : iI s17 0 = iI s13 0 := fm_iq Fs17 rfl
  have ws17_74 : iI s17 74 = iI s13 74 := fm_iq Fs17 rfl
  have ws17_9 : iI s17 9 = iI s13 9 := fm_iq Fs17 rfl
  have ws17_90 : iI s17 90 = iI s13 90 := fm_iq Fs17 rfl
  have ws17_20 : iI s17 20 = iI s13 20 := fm_iq Fs17 rfl
  have ws17_98 : iI s17 98 = iI s13 98 := fm_iq Fs17 rfl
  have ws17_70 : iI s17 70 = iI s13 70 := fm_iq Fs17 rfl
  have ws17_107 : iI s17 107 = iI s13 107 := fm_iq Fs17 rfl
  have ws17_12 : iI s17 12 = iI s13 12 := fm_iq Fs17 rfl
  have ws17_89 : iI s17 89 = iI s13 89 := fm_iq Fs17 rfl
  have wos17 : iO s17 = iO s13 := fm_o Fs17 (by decide)
  show WS k 409 [(5, .int (Int32.ofInt e14)), (0, .ref q1), (1, .ref (A 0)), (2, .ref (A 179)), (3, .ref (A 517)), (4, .int (Int32.ofInt i))] [.int (Int32.ofInt e18)] (Wd A dT s17) (ce + 1) (sl + 6)
  refine z_store X (lv' := [(6, .int (Int32.ofInt e18)), (5, .int (Int32.ofInt e14)), (0, .ref q1), (1, .ref (A 0)), (2, .ref (A 179)), (3, .ref (A 517)), (4, .int (Int32.ofInt i))]) rfl (by decide) (fun _ h => h) (z_goto X (t := 1894) rfl rfl (w_widen (ce' := ce + 29) (sl' := sl + 222) (by first | exact Nat.le_add_right _ _ | exact Nat.add_le_add_left (by decide) _ | omega) (by first | exact Nat.le_add_right _ _ | exact Nat.add_le_add_left (by decide) _ | omega) ?_))
  exact WS_lv (lv := [(0, .ref q1), (1, .ref (A 0)), (2, .ref (A 179)), (3, .ref (A 517)), (4, .int (Int32.ofInt i))]) (List.forall_mem_cons.mpr ⟨(List.Mem.tail _ (List.Mem.tail _ (List.Mem.head _))), (List.forall_mem_cons.mpr ⟨(List.Mem.tail _ (List.Mem.tail _ (List.Mem.tail _ (List.Mem.head _)))), (List.forall_mem_cons.mpr ⟨(List.Mem.tail _ (List.Mem.tail _ (List.Mem.tail _ (List.Mem.tail _ (List.Mem.head _))))), (List.forall_mem_cons.mpr ⟨(List.Mem.tail _ (List.Mem.tail _ (List.Mem.tail _ (List.Mem.tail _ (List.Mem.tail _ (List.Mem.head _)))))), (List.forall_mem_cons.mpr ⟨(List.Mem.tail _ (List.Mem.tail _ (List.Mem.tail _ (List.Mem.tail _ (List.Mem.tail _ (List.Mem.tail _ (List.Mem.head _))))))), (fun q h => absurd h List.not_mem_nil)⟩)⟩)⟩)⟩)⟩) (hk A _ Is17 JRLx_s17 JFEQ_s17 JRWJ_s17 JFTK_s17 JARJ_s17 JPTJ_s17 (by first | exact oq_f34933ba ws17_89 ws13_89 p1 b10.1 | omega) (by first | exact oq_d7ce4408 ws17_12 ws13_12 p2 | omega) (by first | exact oq_5bcdc35f ws17_74 ws17_0 ws13_74 ws13_0 p3 | omega) (by first | exact oq_5bcdc35f ws17_90 ws17_9 ws13_90 ws13_9 p4 | omega) (by first | exact oq_5bcdc35f ws17_98 ws17_20 ws13_98 ws13_20 p5 | omega) (by first | exact oq_5bcdc35f ws17_107 ws17_70 ws13_107 ws13_70 p6 | omega))
theorem lc_5 (G : GX l s0 D tys a0 dT) (GR : RS0 s0) (SF : SF0 s0) (GT : TXs0 s0) (GW : TXw0 s0) {k : kx_T} (X : AX k 350 dT) (E : kL k = l ∧ kS0 k = s0 ∧ kD k = D ∧ kR k = room_1) {q1 L : Nat} {xs : Nat → Int32} (S : SX k q1 L xs) (hL : L ≤ 3072) (I : Bd s) (jR : RLx s) (jFEQ : FEQ s) (jRWJ : RWJ s) (jFTK : FTK s) (jARJ : ARJ s) (jPTJ : PTJ s) (p1 : iI s 89 = 1) (p2 : iI s 12 ≤ 8) (p3 : iI s 0 = iI s 74) (p4 : iI s 9 = iI s 90) (p5 : iI s 20 = iI s 98) (p6 : iI s 70 = iI s 107) {i : Int} (hi : 0 ≤ i ∧ i + 6 ≤ (L : Int)) {ce sl : Nat} (hce : ce + 29 ≤ 601024) (hsl : sl + 222 ≤ 7293034) (hk : ∀ (A : Nat → Nat) (t : PS), Bd t → RLx t → FEQ t → RWJ t → FTK t → ARJ t → PTJ t → iI t 89 = 1 → iI t 12 ≤ 8 → iI t 0 = iI t 74 → iI t 9 = iI t 90 → iI t 20 = iI t 98 → iI t 70 = iI t 107 → WS k 1894 [(0, .ref q1), (1, .ref (A 0)), (2, .ref (A 179)), (3, .ref (A 517)), (4, .int (Int32.ofInt i))] [] (Wd A dT t) (ce + 29) (sl + 222)) : WS k 414 [(0, .ref q1), (1, .ref (A 0)), (2, .ref (A 179)), (3, .ref (A 517)), (4, .int (Int32.ofInt i))] [] (Wd A dT s) ce sl := by
  have F : Fm [73] [8, 11, 12, 13, 14, 190, 191, 192, 193, 194, 195, 196, 197, 198, 199, 200, 201] s s := fm_rf _ _ s
  have b1 := bi_0 I
  have b2 := bi_74 I
  have b3 := bi_9 I
  have b4 := bi_90 I
  have b5 := bi_20 I
  have b6 := bi_98 I
  have b7 := bi_70 I
  have b8 := bi_107 I
  have b9 := bi_12 I
  have b10 := bi_89 I
  refine z_aload_n X (x := A 0) rfl (List.Mem.tail _ (List.Mem.head _)) (z_aload_n X (x := q1) rfl (List.Mem.head _) (z_load X (x := i) rfl (List.Mem.tail _ (List.Mem.tail _ (List.Mem.tail _ (List.Mem.tail _ (List.Mem.head _))))) (z_const X rfl (z_add X rfl (z_sld X S hL rfl (show 0 ≤ (i + 1) ∧ (i + 1) < (L : Int) by first | exact sx_in hi (by decide) | omega) ?_)))))
  have sr11 : rng (sc xs (i + 1)) := sc_rng
  refine z_aload_n X (x := q1) rfl (List.Mem.head _) (z_load X (x := i) rfl (List.Mem.tail _ (List.Mem.tail _ (List.Mem.tail _ (List.Mem.tail _ (List.Mem.head _))))) (z_const X rfl (z_add X rfl (z_sld X S hL rfl (show 0 ≤ (i + 2) ∧ (i + 2) < (L : Int) by first | exact sx_in hi (by decide) | omega) ?_))))
  have sr12 : rng (sc xs (i + 2)) := sc_rng
  refine z_aload_n X (x := q1) rfl (List.Mem.head _) (z_load X (x := i) rfl (List.Mem.tail _ (List.Mem.tail _ (List.Mem.tail _ (List.Mem.tail _ (List.Mem.head _))))) (z_const X rfl (z_add X rfl (z_sld X S hL rfl (show 0 ≤ (i + 3) ∧ (i + 3) < (L : Int) by first | exact sx_in hi (by decide) | omega) ?_))))
  have sr13 : rng (sc xs (i + 3)) := sc_rng
  refine z_aload_n X (x := q1) rfl (List.Mem.head _) (z_load X (x := i) rfl (List.Mem.tail _ (List.Mem.tail _ (List.Mem.tail _ (List.Mem.tail _ (List.Mem.head _))))) (z_const X rfl (z_add X rfl (z_sld X S hL rfl (show 0 ≤ (i + 4) ∧ (i + 4) < (L : Int) by first | exact sx_in hi (by decide) | omega) ?_))))
  have sr14 : rng (sc xs (i + 4)) := sc_rng
  refine z_callL X (rm := rmN 317) (As := [.ref (A 0), .int (Int32.ofInt (sc xs (i + 1))), .int (Int32.ofInt (sc xs (i + 2))), .int (Int32.ofInt (sc xs (i + 3))), .int (Int32.ofInt (sc xs (i + 4)))]) (st := []) rfl (by decide) rfl (by rw [E.1, E.2.1, E.2.2.1]; exact lw_flow5 G I jARJ.2.2.1.1 jARJ.2.2.2.2.1 (by omega) (by omega) (by omega) (by omega)) ⟨by rw [E.2.2.2]; exact (show 11 + 1 ≤ 2048 by decide), by rw [E.2.2.2]; exact (show 8 + (6 + 11) + 219 ≤ 84000 by decide), by rw [E.2.2.2]; exact (show ce + 5 ≤ 601024 by first | exact rmo_1 hce (by decide) | exact rmo_2 hce (by decide) | omega), by rw [E.2.2.2]; exact (show sl + 30 ≤ 7293034 by first | exact rmo_1 hsl (by decide) | exact rmo_2 hsl (by decide) | omega)⟩ (Nat.le_of_ble_eq_true rfl) (fun vv A s15 hA2 hq => ?_) (fun ee A s15 hA2 hq => ?_)
  rotate_left
  · obtain ⟨Is15, Fs15, JTWJ_s15, e16, hv, hrs15, hps15⟩ := hq; cases hv
  obtain ⟨Is15, Fs15, JTWJ_s15, e16, hv, hrs15, hps15⟩ := hq
  cases hv
  rw [← hA2 0 (by decide)]
  rw [← hA2 179 (by decide)]
  rw [← hA2 517 (by decide)]
  have JRLx_s15 : RLx s15 := RLx_fm Fs15 (by decide) jR
  have JFEQ_s15 : FEQ s15 := FEQ_fm Fs15 (by decide) jFEQ
  have JRWJ_s15 : RWJ s15 := RWJ_fm Fs15 (by decide +kernel) jRWJ
  have JFTK_s15 : FTK s15 := FTK_fm Fs15 (by decide) jFTK
  have JPTJ_s15 : PTJ s15 := PTJ_fm Fs15 (by decide +kernel) jPTJ
  have JWQJ_s15 : WQJ s15 := WQJ_fm Fs15 (by decide +kernel) jARJ.1
  have JLIJ_s15 : LIJ s15 := LIJ_fm Fs15 (by decide +kernel) jARJ.2.1
  have JAIR_s15 : AIR s15 := AIR_fm Fs15 (by decide +kernel) jARJ.2.2.2.2.2.1
  have JCPL_s15 : CPL s15 := CPL_fm Fs15 (by decide +kernel) jARJ.2.2.2.2.2.2.1
  have JRLJ_s15 : RLJ s15 := RLJ_fm Fs15 (by decide +kernel) jARJ.2.2.2.2.2.2.2
  have ws15_0 : iI s15 0 = iI s 0 := fm_iq Fs15 rfl
  have ws15_74 : iI s15 74 = iI s 74 := fm_iq Fs15 rfl
  have ws15_9 : iI s15 9 = iI s 9 := fm_iq Fs15 rfl
  have ws15_90 : iI s15 90 = iI s 90 := fm_iq Fs15 rfl
  have ws15_20 : iI s15 20 = iI s 20 := fm_iq Fs15 rfl
  have ws15_98 : iI s15 98 = iI s 98 := fm_iq Fs15 rfl
  have ws15_70 : iI s15 70 = iI s 70 := fm_iq Fs15 rfl
  have ws15_107 : iI s15 107 = iI s 107 := fm_iq Fs15 rfl
  have ws15_12 : iI s15 12 = iI s 12 := fm_iq Fs15 rfl
  have ws15_89 : iI s15 89 = iI s 89 := fm_iq Fs15 rfl
  have wos15 : iO s15 = iO s := fm_o Fs15 (by decide)
  show WS k 442 [(0, .ref q1), (1, .ref (A 0)), (2, .ref (A 179)), (3, .ref (A 517)), (4, .int (Int32.ofInt i))] [.int (Int32.ofInt e16)] (Wd A dT s15) (ce + 5) (sl + 30)
  refine z_store X (lv' := [(5, .int (Int32.ofInt e16)), (0, .ref q1), (1, .ref (A 0)), (2, .ref (A 179)), (3, .ref (A 517)), (4, .int (Int32.ofInt i))]) rfl (by decide) (fun _ h => h) (z_aload_n X (x := A 179) rfl (List.Mem.tail _ (List.Mem.tail _ (List.Mem.tail _ (List.Mem.head _)))) (z_aload_n X (x := q1) rfl (List.Mem.tail _ (List.Mem.head _)) (z_load X (x := i) rfl (List.Mem.tail _ (List.Mem.tail _ (List.Mem.tail _ (List.Mem.tail _ (List.Mem.tail _ (List.Mem.head _)))))) (z_const X rfl (z_add X rfl (z_sld X S hL rfl (show 0 ≤ (i + 1) ∧ (i + 1) < (L : Int) by first | exact sx_in hi (by decide) | omega) ?_))))))
  have sr17 : rng (sc xs (i + 1)) := sc_rng
  refine z_aload_n X (x := q1) rfl (List.Mem.tail _ (List.Mem.head _)) (z_load X (x := i) rfl (List.Mem.tail _ (List.Mem.tail _ (List.Mem.tail _ (List.Mem.tail _ (List.Mem.tail _ (List.Mem.head _)))))) (z_const X rfl (z_add X rfl (z_sld X S hL rfl (show 0 ≤ (i + 2) ∧ (i + 2) < (L : Int) by first | exact sx_in hi (by decide) | omega) ?_))))
  have sr18 : rng (sc xs (i + 2)) := sc_rng
  refine z_aload_n X (x := q1) rfl (List.Mem.tail _ (List.Mem.head _)) (z_load X (x := i) rfl (List.Mem.tail _ (List.Mem.tail _ (List.Mem.tail _ (List.Mem.tail _ (List.Mem.tail _ (List.Mem.head _)))))) (z_const X rfl (z_add X rfl (z_sld X S hL rfl (show 0 ≤ (i + 3) ∧ (i + 3) < (L : Int) by first | exact sx_in hi (by decide) | omega) ?_))))
  have sr19 : rng (sc xs (i + 3)) := sc_rng
  refine z_aload_n X (x := q1) rfl (List.Mem.tail _ (List.Mem.head _)) (z_load X (x := i) rfl (List.Mem.tail _ (List.Mem.tail _ (List.Mem.tail _ (List.Mem.tail _ (List.Mem.tail _ (List.Mem.head _)))))) (z_const X rfl (z_add X rfl (z_sld X S hL rfl (show 0 ≤ (i + 4) ∧ (i + 4) < (L : Int) by first | exact sx_in hi (by decide) | omega) ?_))))
  have sr20 : rng (sc xs (i + 4)) := sc_rng
  refine z_callV X 179 (rm := rmN 218) (As := [.int (Int32.ofInt (sc xs (i + 1))), .int (Int32.ofInt (sc xs (i + 2))), .int (Int32.ofInt (sc xs (i + 3))), .int (Int32.ofInt (sc xs (i + 4)))]) (st := []) rfl rfl (by decide) rfl (by rw [E.1, E.2.1, E.2.2.1]; exact k_flow3 G Is15 (by first | exact ⟨sr17.1, sr17.2⟩ | omega) (by first | exact ⟨sr18.1, sr18.2⟩ | omega) (by first | exact ⟨sr19.1, sr19.2⟩ | omega) (by first | exact ⟨sr20.1, sr20.2⟩ | omega)) ⟨by rw [E.2.2.2]; exact (show 7 + 1 ≤ 2048 from oq_4e6106eb), by rw [E.2.2.2]; exact (show 8 + (6 + 11) + 122 ≤ 84000 from oq_380e4f97), by rw [E.2.2.2]; exact (show (ce + 5) + 0 ≤ 601024 by first | (clear hps15; omega) | omega), by rw [E.2.2.2]; exact (show (sl + 30) + 0 ≤ 7293034 by first | (clear hps15; omega) | omega)⟩ (Nat.le_of_ble_eq_true rfl) (fun vv s21 hq => ?_) (fun ee s21 hq => ?_)
  rotate_left
  · obtain ⟨Is21, Fs21, hv, hps21⟩ := hq; cases hv
  obtain ⟨Is21, Fs21, hv, hps21⟩ := hq
  cases hv
  have JRLx_s21 : RLx s21 := RLx_fm Fs21 (by decide) JRLx_s15
  have JFEQ_s21 : FEQ s21 := FEQ_fm Fs21 (by decide) JFEQ_s15
  have JRWJ_s21 : RWJ s21 := RWJ_fm Fs21 (by decide +kernel) JRWJ_s15
  have JFTK_s21 : FTK s21 := FTK_fm Fs21 (by decide) JFTK_s15
  have JPTJ_s21 : PTJ s21 := PTJ_fm Fs21 (by decide +kernel) JPTJ_s15
  have JWQJ_s21 : WQJ s21 := WQJ_fm Fs21 (by decide +kernel) JWQJ_s15
  have JLIJ_s21 : LIJ s21 := LIJ_fm Fs21 (by decide +kernel) JLIJ_s15
  have JAIR_s21 : AIR s21 := AIR_fm Fs21 (by decide +kernel) JAIR_s15
  have JCPL_s21 : CPL s21 := CPL_fm Fs21 (by decide +kernel) JCPL_s15
  have JRLJ_s21 : RLJ s21 := RLJ_fm Fs21 (by decide +kernel) JRLJ_s15
  have JTWJ_s21 : TWJ s21 := TWJ_fm Fs21 (by decide +kernel) JTWJ_s15
  have ws21_0 : iI s21 0 = iI s15 0 := fm_iq Fs21 rfl
  have ws21_74 : iI s21 74 = iI s15 74 := fm_iq Fs21 rfl
  have ws21_9 : iI s21 9 = iI s15 9 := fm_iq Fs21 rfl
  have ws21_90 : iI s21 90 = iI s15 90 := fm_iq Fs21 rfl
  have ws21_20 : iI s21 20 = iI s15 20 := fm_iq Fs21 rfl
  have ws21_98 : iI s21 98 = iI s15 98 := fm_iq Fs21 rfl
  have ws21_70 : iI s21 70 = iI s15 70 := fm_iq Fs21 rfl
  have ws21_107 : iI s21 107 = iI s15 107 := fm_iq Fs21 rfl
  have ws21_12 : iI s21 12 = iI s15 12 := fm_iq Fs21 rfl
  have ws21_89 : iI s21 89 = iI s15 89 := fm_iq Fs21 rfl
  have wos21 : iO s21 = iO s15 := fm_o Fs21 (by decide)
  show WS k 472 [(5, .int (Int32.ofInt e16)), (0, .ref q1), (1, .ref (A 0)), (2, .ref (A 179)), (3, .ref (A 517)), (4, .int (Int32.ofInt i))] [] (Wd A dT s21) (ce + 5) (sl + 30)
  rcases hps15 with cc | cc | cc
  ·
    rcases hps21 with mm | mm | mm
    ·
      have jb23 : ARJ s21 := ⟨JWQJ_s21, JLIJ_s21, mqj_flow jARJ.2.2.1 cc.2.2.2.2.2.2.2.2.2.2.1 cc.2.2.2.2.2.2.2.2.2.2.2.1 cc.2.2.2.2.2.2.2.2.2.2.2.2.1 cc.2.2.2.2.2.2.2.2.2.2.2.2.2 (smr_fm Fs15 (by decide +kernel)) (sam_fm Fs15 (by decide)) (sam_fm Fs15 (by decide)) mm.2.2.2.2.2.2.2.2.2.2 (sa4_fm Fs21 (by decide +kernel)) (sam_fm Fs21 (by decide)) (sam_fm Fs21 (by decide)) rfl rfl rfl rfl, nzj_st (nzj_fl jARJ.2.2.2.1 cc.2.2.2.2.2.2.2.2.2.2.2.1 (by first | (clear hps21 hps15; omega) | (clear hps15; omega) | omega) (by first | (clear hps21 hps15; omega) | (clear hps15; omega) | omega)) (by first | (clear hps21 hps15; omega) | (clear hps15; omega) | omega) (sam_fm Fs21 (by decide +kernel)), JTWJ_s21, JAIR_s21, JCPL_s21, JRLJ_s21⟩
      refine z_goto X (t := 1894) rfl rfl (w_widen (ce' := ce + 29) (sl' := sl + 222) (by first | exact Nat.le_add_right _ _ | exact Nat.add_le_add_left (by decide) _ | omega) (by first | exact Nat.le_add_right _ _ | exact Nat.add_le_add_left (by decide) _ | omega) ?_)
      exact WS_lv (lv := [(0, .ref q1), (1, .ref (A 0)), (2, .ref (A 179)), (3, .ref (A 517)), (4, .int (Int32.ofInt i))]) (List.forall_mem_cons.mpr ⟨(List.Mem.tail _ (List.Mem.head _)), (List.forall_mem_cons.mpr ⟨(List.Mem.tail _ (List.Mem.tail _ (List.Mem.head _))), (List.forall_mem_cons.mpr ⟨(List.Mem.tail _ (List.Mem.tail _ (List.Mem.tail _ (List.Mem.head _)))), (List.forall_mem_cons.mpr ⟨(List.Mem.tail _ (List.Mem.tail _ (List.Mem.tail _ (List.Mem.tail _ (List.Mem.head _))))), (List.forall_mem_cons.mpr ⟨(List.Mem.tail _ (List.Mem.tail _ (List.Mem.tail _ (List.Mem.tail _ (List.Mem.tail _ (List.Mem.head _)))))), (fun q h => absurd h List.not_mem_nil)⟩)⟩)⟩)⟩)⟩) (hk A _ Is21 JRLx_s21 JFEQ_s21 JRWJ_s21 JFTK_s21 jb23 JPTJ_s21 (by first | exact oq_f34933ba ws21_89 ws15_89 p1 b10.1 | omega) (by first | exact oq_d7ce4408 ws21_12 ws15_12 p2 | omega) (by first | exact oq_5bcdc35f ws21_74 ws21_0 ws15_74 ws15_0 p3 | omega) (by first | exact oq_5bcdc35f ws21_90 ws21_9 ws15_90 ws15_9 p4 | omega) (by first | exact oq_5bcdc35f ws21_98 ws21_20 ws15_98 ws15_20 p5 | omega) (by first | exact oq_5bcdc35f ws21_107 ws21_70 ws15_107 ws15_70 p6 | omega))
    ·
      exfalso
      omega
    ·
      exfalso
      omega
  ·
    rcases hps21 with mm | mm | mm
    ·
      exfalso
      omega
    ·
      have jb24 : ARJ s21 := ⟨JWQJ_s21, JLIJ_s21, mqj_sam jARJ.2.2.1 (sa4_ts cc.2.2 (sa4_fm Fs21 (by decide +kernel))) (smr_ts (smr_fm Fs15 (by decide +kernel)) mm.2.2) (sam_ts (sam_fm Fs15 (by decide)) (sam_fm Fs21 (by decide))) (sam_ts (sam_fm Fs15 (by decide)) (sam_fm Fs21 (by decide))), nzj_st jARJ.2.2.2.1 (by first | (clear hps21 hps15; omega) | (clear hps15; omega) | omega) (sam_ts cc.2.2.1 (sam_fm Fs21 (by decide +kernel))), JTWJ_s21, JAIR_s21, JCPL_s21, JRLJ_s21⟩
      refine z_goto X (t := 1894) rfl rfl (w_widen (ce' := ce + 29) (sl' := sl + 222) (by first | exact Nat.le_add_right _ _ | exact Nat.add_le_add_left (by decide) _ | omega) (by first | exact Nat.le_add_right _ _ | exact Nat.add_le_add_left (by decide) _ | omega) ?_)
      exact WS_lv (lv := [(0, .ref q1), (1, .ref (A 0)), (2, .ref (A 179)), (3, .ref (A 517)), (4, .int (Int32.ofInt i))]) (List.forall_mem_cons.mpr ⟨(List.Mem.tail _ (List.Mem.head _)), (List.forall_mem_cons.mpr ⟨(List.Mem.tail _ (List.Mem.tail _ (List.Mem.head _))), (List.forall_mem_cons.mpr ⟨(List.Mem.tail _ (List.Mem.tail _ (List.Mem.tail _ (List.Mem.head _)))), (List.forall_mem_cons.mpr ⟨(List.Mem.tail _ (List.Mem.tail _ (List.Mem.tail _ (List.Mem.tail _ (List.Mem.head _))))), (List.forall_mem_cons.mpr ⟨(List.Mem.tail _ (List.Mem.tail _ (List.Mem.tail _ (List.Mem.tail _ (List.Mem.tail _ (List.Mem.head _)))))), (fun q h => absurd h List.not_mem_nil)⟩)⟩)⟩)⟩)⟩) (hk A _ Is21 JRLx_s21 JFEQ_s21 JRWJ_s21 JFTK_s21 jb24 JPTJ_s21 (by first | exact oq_f34933ba ws21_89 ws15_89 p1 b10.1 | omega) (by first | exact oq_d7ce4408 ws21_12 ws15_12 p2 | omega) (by first | exact oq_5bcdc35f ws21_74 ws21_0 ws15_74 ws15_0 p3 | omega) (by first | exact oq_5bcdc35f ws21_90 ws21_9 ws15_90 ws15_9 p4 | omega) (by first | exact oq_5bcdc35f ws21_98 ws21_20 ws15_98 ws15_20 p5 | omega) (by first | exact oq_5bcdc35f ws21_107 ws21_70 ws15_107 ws15_70 p6 | omega))
    ·
      exfalso
      omega
  ·
    rcases hps21 with mm | mm | mm
    ·
      exfalso
      omega
    ·
      exfalso
      omega
    ·
      have jb25 : ARJ s21 := ⟨JWQJ_s21, JLIJ_s21, mqj_sam jARJ.2.2.1 (sa4_ts cc.2.2.2.2 (sa4_fm Fs21 (by decide +kernel))) (smr_ts (smr_fm Fs15 (by decide +kernel)) mm.2.2.2.2) (sam_ts (sam_fm Fs15 (by decide)) (sam_fm Fs21 (by decide))) (sam_ts (sam_fm Fs15 (by decide)) (sam_fm Fs21 (by decide))), nzj_st jARJ.2.2.2.1 (by first | (clear hps21 hps15; omega) | (clear hps15; omega) | omega) (sam_ts cc.2.2.2.2.1 (sam_fm Fs21 (by decide +kernel))), JTWJ_s21, JAIR_s21, JCPL_s21, JRLJ_s21⟩
      refine z_goto X (t := 1894) rfl rfl (w_widen (ce' := ce + 29) (sl' := sl + 222) (by first | exact Nat.le_add_right _ _ | exact Nat.add_le_add_left (by decide) _ | omega) (by first | exact Nat.le_add_right _ _ | exact Nat.add_le_add_left (by decide) _ | omega) ?_)
      exact WS_lv (lv := [(0, .ref q1), (1, .ref (A 0)), (2, .ref (A 179)), (3, .ref (A 517)), (4, .int (Int32.ofInt i))]) (List.forall_mem_cons.mpr ⟨(List.Mem.tail _ (List.Mem.head _)), (List.forall_mem_cons.mpr ⟨(List.Mem.tail _ (List.Mem.tail _ (List.Mem.head _))), (List.forall_mem_cons.mpr ⟨(List.Mem.tail _ (List.Mem.tail _ (List.Mem.tail _ (List.Mem.head _)))), (List.forall_mem_cons.mpr ⟨(List.Mem.tail _ (List.Mem.tail _ (List.Mem.tail _ (List.Mem.tail _ (List.Mem.head _))))), (List.forall_mem_cons.mpr ⟨(List.Mem.tail _ (List.Mem.tail _ (List.Mem.tail _ (List.Mem.tail _ (List.Mem.tail _ (List.Mem.head _)))))), (fun q h => absurd h List.not_mem_nil)⟩)⟩)⟩)⟩)⟩) (hk A _ Is21 JRLx_s21 JFEQ_s21 JRWJ_s21 JFTK_s21 jb25 JPTJ_s21 (by first | exact oq_f34933ba ws21_89 ws15_89 p1 b10.1 | omega) (by first | exact oq_d7ce4408 ws21_12 ws15_12 p2 | omega) (by first | exact oq_5bcdc35f ws21_74 ws21_0 ws15_74 ws15_0 p3 | omega) (by first | exact oq_5bcdc35f ws21_90 ws21_9 ws15_90 ws15_9 p4 | omega) (by first | exact oq_5bcdc35f ws21_98 ws21_20 ws15_98 ws15_20 p5 | omega) (by first | exact oq_5bcdc35f ws21_107 ws21_70 ws15_107 ws15_70 p6 | omega))
theorem lc_6 (G : GX l s0 D tys a0 dT) (GR : RS0 s0) (SF : SF0 s0) (GT : TXs0 s0) (GW : TXw0 s0) {k : kx_T} (X : AX k 350 dT) (E : kL k = l ∧ kS0 k = s0 ∧ kD k = D ∧ kR k = room_1) {q1 L : Nat} {xs : Nat → Int32} (S : SX k q1 L xs) (hL : L ≤ 3072) (I : Bd s) (jR : RLx s) (jFEQ : FEQ s) (jRWJ : RWJ s) (jFTK : FTK s) (jARJ : ARJ s) (jPTJ : PTJ s) (p1 : iI s 89 = 1) (p2 : iI s 12 ≤ 8) (p3 : iI s 0 = iI s 74) (p4 : iI s 9 = iI s 90) (p5 : iI s 20 = iI s 98) (p6 : iI s 70 = iI s 107) {i : Int} (hi : 0 ≤ i ∧ i + 6 ≤ (L : Int)) {ce sl : Nat} (hce : ce + 29 ≤ 601024) (hsl : sl + 222 ≤ 7293034) (hk : ∀ (A : Nat → Nat) (t : PS), Bd t → RLx t → FEQ t → RWJ t → FTK t → ARJ t → PTJ t → iI t 89 = 1 → iI t 12 ≤ 8 → iI t 0 = iI t 74 → iI t 9 = iI t 90 → iI t 20 = iI t 98 → iI t 70 = iI t 107 → WS k 1894 [(0, .ref q1), (1, .ref (A 0)), (2, .ref (A 179)), (3, .ref (A 517)), (4, .int (Int32.ofInt i))] [] (Wd A dT t) (ce + 29) (sl + 222)) : WS k 475 [(0, .ref q1), (1, .ref (A 0)), (2, .ref (A 179)), (3, .ref (A 517)), (4, .int (Int32.ofInt i))] [] (Wd A dT s) ce sl := by
  have F : Fm [73] [9, 10, 11, 12, 13, 14, 163, 164] s s := fm_rf _ _ s
  have b1 := bi_0 I
  have b2 := bi_74 I
  have b3 := bi_9 I
  have b4 := bi_90 I
  have b5 := bi_20 I
  have b6 := bi_98 I
  have b7 := bi_70 I
  have b8 := bi_107 I
  have b9 := bi_12 I
  have b10 := bi_89 I
  refine z_aload_n X (x := A 0) rfl (List.Mem.tail _ (List.Mem.head _)) (z_aload_n X (x := q1) rfl (List.Mem.head _) (z_load X (x := i) rfl (List.Mem.tail _ (List.Mem.tail _ (List.Mem.tail _ (List.Mem.tail _ (List.Mem.head _))))) (z_const X rfl (z_add X rfl (z_sld X S hL rfl (show 0 ≤ (i + 1) ∧ (i + 1) < (L : Int) by first | exact sx_in hi (by decide) | omega) ?_)))))
  have sr11 : rng (sc xs (i + 1)) := sc_rng
  refine z_aload_n X (x := q1) rfl (List.Mem.head _) (z_load X (x := i) rfl (List.Mem.tail _ (List.Mem.tail _ (List.Mem.tail _ (List.Mem.tail _ (List.Mem.head _))))) (z_const X rfl (z_add X rfl (z_sld X S hL rfl (show 0 ≤ (i + 2) ∧ (i + 2) < (L : Int) by first | exact sx_in hi (by decide) | omega) ?_))))
  have sr12 : rng (sc xs (i + 2)) := sc_rng
  refine z_aload_n X (x := q1) rfl (List.Mem.head _) (z_load X (x := i) rfl (List.Mem.tail _ (List.Mem.tail _ (List.Mem.tail _ (List.Mem.tail _ (List.Mem.head _))))) (z_const X rfl (z_add X rfl (z_sld X S hL rfl (show 0 ≤ (i + 3) ∧ (i + 3) < (L : Int) by first | exact sx_in hi (by decide) | omega) ?_))))
  have sr13 : rng (sc xs (i + 3)) := sc_rng
  refine z_callL X (rm := rmN 318) (As := [.ref (A 0), .int (Int32.ofInt (sc xs (i + 1))), .int (Int32.ofInt (sc xs (i + 2))), .int (Int32.ofInt (sc xs (i + 3)))]) (st := []) rfl (by decide) rfl (by rw [E.1, E.2.1, E.2.2.1]; exact lw_span5 G I jARJ.2.2.1.1 jARJ.2.2.2.2.1 (by omega) (by omega) (by omega)) ⟨by rw [E.2.2.2]; exact (show 11 + 1 ≤ 2048 by decide), by rw [E.2.2.2]; exact (show 8 + (5 + 11) + 216 ≤ 84000 by decide), by rw [E.2.2.2]; exact (show ce + 3 ≤ 601024 by first | exact rmo_1 hce (by decide) | exact rmo_2 hce (by decide) | omega), by rw [E.2.2.2]; exact (show sl + 18 ≤ 7293034 by first | exact rmo_1 hsl (by decide) | exact rmo_2 hsl (by decide) | omega)⟩ (Nat.le_of_ble_eq_true rfl) (fun vv A s14 hA2 hq => ?_) (fun ee A s14 hA2 hq => ?_)
  rotate_left
  · obtain ⟨Is14, Fs14, JTWJ_s14, e15, hv, hrs14, hps14⟩ := hq; cases hv
  obtain ⟨Is14, Fs14, JTWJ_s14, e15, hv, hrs14, hps14⟩ := hq
  cases hv
  rw [← hA2 0 (by decide)]
  rw [← hA2 179 (by decide)]
  rw [← hA2 517 (by decide)]
  have JRLx_s14 : RLx s14 := RLx_fm Fs14 (by decide) jR
  have JFEQ_s14 : FEQ s14 := FEQ_fm Fs14 (by decide) jFEQ
  have JRWJ_s14 : RWJ s14 := RWJ_fm Fs14 (by decide +kernel) jRWJ
  have JFTK_s14 : FTK s14 := FTK_fm Fs14 (by decide) jFTK
  have JPTJ_s14 : PTJ s14 := PTJ_fm Fs14 (by decide +kernel) jPTJ
  have JWQJ_s14 : WQJ s14 := WQJ_fm Fs14 (by decide +kernel) jARJ.1
  have JLIJ_s14 : LIJ s14 := LIJ_fm Fs14 (by decide +kernel) jARJ.2.1
  have JNZJ_s14 : NZJ s14 := NZJ_fm Fs14 (by decide) jARJ.2.2.2.1
  have JAIR_s14 : AIR s14 := AIR_fm Fs14 (by decide +kernel) jARJ.2.2.2.2.2.1
  have JCPL_s14 : CPL s14 := CPL_fm Fs14 (by decide +kernel) jARJ.2.2.2.2.2.2.1
  have JRLJ_s14 : RLJ s14 := RLJ_fm Fs14 (by decide +kernel) jARJ.2.2.2.2.2.2.2
  have ws14_0 : iI s14 0 = iI s 0 := fm_iq Fs14 rfl
  have ws14_74 : iI s14 74 = iI s 74 := fm_iq Fs14 rfl
  have ws14_9 : iI s14 9 = iI s 9 := fm_iq Fs14 rfl
  have ws14_90 : iI s14 90 = iI s 90 := fm_iq Fs14 rfl
  have ws14_20 : iI s14 20 = iI s 20 := fm_iq Fs14 rfl
  have ws14_98 : iI s14 98 = iI s 98 := fm_iq Fs14 rfl
  have ws14_70 : iI s14 70 = iI s 70 := fm_iq Fs14 rfl
  have ws14_107 : iI s14 107 = iI s 107 := fm_iq Fs14 rfl
  have ws14_12 : iI s14 12 = iI s 12 := fm_iq Fs14 rfl
  have ws14_89 : iI s14 89 = iI s 89 := fm_iq Fs14 rfl
  have wos14 : iO s14 = iO s := fm_o Fs14 (by decide)
  show WS k 497 [(0, .ref q1), (1, .ref (A 0)), (2, .ref (A 179)), (3, .ref (A 517)), (4, .int (Int32.ofInt i))] [.int (Int32.ofInt e15)] (Wd A dT s14) (ce + 3) (sl + 18)
  refine z_store X (lv' := [(5, .int (Int32.ofInt e15)), (0, .ref q1), (1, .ref (A 0)), (2, .ref (A 179)), (3, .ref (A 517)), (4, .int (Int32.ofInt i))]) rfl (by decide) (fun _ h => h) (z_aload_n X (x := A 179) rfl (List.Mem.tail _ (List.Mem.tail _ (List.Mem.tail _ (List.Mem.head _)))) (z_aload_n X (x := q1) rfl (List.Mem.tail _ (List.Mem.head _)) (z_load X (x := i) rfl (List.Mem.tail _ (List.Mem.tail _ (List.Mem.tail _ (List.Mem.tail _ (List.Mem.tail _ (List.Mem.head _)))))) (z_const X rfl (z_add X rfl (z_sld X S hL rfl (show 0 ≤ (i + 1) ∧ (i + 1) < (L : Int) by first | exact sx_in hi (by decide) | omega) ?_))))))
  have sr16 : rng (sc xs (i + 1)) := sc_rng
  refine z_aload_n X (x := q1) rfl (List.Mem.tail _ (List.Mem.head _)) (z_load X (x := i) rfl (List.Mem.tail _ (List.Mem.tail _ (List.Mem.tail _ (List.Mem.tail _ (List.Mem.tail _ (List.Mem.head _)))))) (z_const X rfl (z_add X rfl (z_sld X S hL rfl (show 0 ≤ (i + 2) ∧ (i + 2) < (L : Int) by first | exact sx_in hi (by decide) | omega) ?_))))
  have sr17 : rng (sc xs (i + 2)) := sc_rng
  refine z_aload_n X (x := q1) rfl (List.Mem.tail _ (List.Mem.head _)) (z_load X (x := i) rfl (List.Mem.tail _ (List.Mem.tail _ (List.Mem.tail _ (List.Mem.tail _ (List.Mem.tail _ (List.Mem.head _)))))) (z_const X rfl (z_add X rfl (z_sld X S hL rfl (show 0 ≤ (i + 3) ∧ (i + 3) < (L : Int) by first | exact sx_in hi (by decide) | omega) ?_))))
  have sr18 : rng (sc xs (i + 3)) := sc_rng
  refine z_callV X 179 (rm := rmN 219) (As := [.int (Int32.ofInt (sc xs (i + 1))), .int (Int32.ofInt (sc xs (i + 2))), .int (Int32.ofInt (sc xs (i + 3)))]) (st := []) rfl rfl (by decide) rfl (by rw [E.1, E.2.1, E.2.2.1]; exact k_span3 G Is14 (by first | exact ⟨sr16.1, sr16.2⟩ | omega) (by first | exact ⟨sr17.1, sr17.2⟩ | omega) (by first | exact ⟨sr18.1, sr18.2⟩ | omega)) ⟨by rw [E.2.2.2]; exact (show 7 + 1 ≤ 2048 from oq_4e6106eb), by rw [E.2.2.2]; exact (show 8 + (4 + 11) + 122 ≤ 84000 from oq_ebbf79c1), by rw [E.2.2.2]; exact (show (ce + 3) + 0 ≤ 601024 by first | (clear hps14; omega) | omega), by rw [E.2.2.2]; exact (show (sl + 18) + 0 ≤ 7293034 by first | (clear hps14; omega) | omega)⟩ (Nat.le_of_ble_eq_true rfl) (fun vv s19 hq => ?_) (fun ee s19 hq => ?_)
  rotate_left
  · obtain ⟨Is19, Fs19, hv, hps19⟩ := hq; cases hv
  obtain ⟨Is19, Fs19, hv, hps19⟩ := hq
  cases hv
  have JRLx_s19 : RLx s19 := RLx_fm Fs19 (by decide) JRLx_s14
  have JFEQ_s19 : FEQ s19 := FEQ_fm Fs19 (by decide) JFEQ_s14
  have JRWJ_s19 : RWJ s19 := RWJ_fm Fs19 (by decide +kernel) JRWJ_s14
  have JFTK_s19 : FTK s19 := FTK_fm Fs19 (by decide) JFTK_s14
  have JPTJ_s19 : PTJ s19 := PTJ_fm Fs19 (by decide +kernel) JPTJ_s14
  have JWQJ_s19 : WQJ s19 := WQJ_fm Fs19 (by decide +kernel) JWQJ_s14
  have JLIJ_s19 : LIJ s19 := LIJ_fm Fs19 (by decide +kernel) JLIJ_s14
  have JNZJ_s19 : NZJ s19 := NZJ_fm Fs19 (by decide) JNZJ_s14
  have JAIR_s19 : AIR s19 := AIR_fm Fs19 (by decide +kernel) JAIR_s14
  have JCPL_s19 : CPL s19 := CPL_fm Fs19 (by decide +kernel) JCPL_s14
  have JRLJ_s19 : RLJ s19 := RLJ_fm Fs19 (by decide +kernel) JRLJ_s14
  have JTWJ_s19 : TWJ s19 := TWJ_fm Fs19 (by decide +kernel) JTWJ_s14
  have ws19_0 : iI s19 0 = iI s14 0 := fm_iq Fs19 rfl
  have ws19_74 : iI s19 74 = iI s14 74 := fm_iq Fs19 rfl
  have ws19_9 : iI s19 9 = iI s14 9 := fm_iq Fs19 rfl
  have ws19_90 : iI s19 90 = iI s14 90 := fm_iq Fs19 rfl
  have ws19_20 : iI s19 20 = iI s14 20 := fm_iq Fs19 rfl
  have ws19_98 : iI s19 98 = iI s14 98 := fm_iq Fs19 rfl
  have ws19_70 : iI s19 70 = iI s14 70 := fm_iq Fs19 rfl
  have ws19_107 : iI s19 107 = iI s14 107 := fm_iq Fs19 rfl
  have ws19_12 : iI s19 12 = iI s14 12 := fm_iq Fs19 rfl
  have ws19_89 : iI s19 89 = iI s14 89 := fm_iq Fs19 rfl
  have wos19 : iO s19 = iO s14 := fm_o Fs19 (by decide)
  show WS k 521 [(5, .int (Int32.ofInt e15)), (0, .ref q1), (1, .ref (A 0)), (2, .ref (A 179)), (3, .ref (A 517)), (4, .int (Int32.ofInt i))] [] (Wd A dT s19) (ce + 3) (sl + 18)
  rcases hps14 with cc | cc | cc
  ·
    rcases hps19 with mm | mm | mm
    ·
      have jb21 : ARJ s19 := ⟨JWQJ_s19, JLIJ_s19, mqj_span jARJ.2.2.1 cc.2.2.2.2.2.2.2.1 cc.2.2.2.2.2.2.2.2.2.2 cc.2.2.2.2.2.2.2.2.1 cc.2.2.2.2.2.2.2.2.2.1 (smr_fm Fs14 (by decide +kernel)) (sam_fm Fs14 (by decide)) (sam_fm Fs14 (by decide)) mm.2.2.2.2.2.2.2.1 mm.2.2.2.2.2.2.2.2 (sa4_fm Fs19 (by decide +kernel)) (smr_fm Fs19 (by decide +kernel)), JNZJ_s19, JTWJ_s19, JAIR_s19, JCPL_s19, JRLJ_s19⟩
      refine z_goto X (t := 1894) rfl rfl (w_widen (ce' := ce + 29) (sl' := sl + 222) (by first | exact Nat.le_add_right _ _ | exact Nat.add_le_add_left (by decide) _ | omega) (by first | exact Nat.le_add_right _ _ | exact Nat.add_le_add_left (by decide) _ | omega) ?_)
      exact WS_lv (lv := [(0, .ref q1), (1, .ref (A 0)), (2, .ref (A 179)), (3, .ref (A 517)), (4, .int (Int32.ofInt i))]) (List.forall_mem_cons.mpr ⟨(List.Mem.tail _ (List.Mem.head _)), (List.forall_mem_cons.mpr ⟨(List.Mem.tail _ (List.Mem.tail _ (List.Mem.head _))), (List.forall_mem_cons.mpr ⟨(List.Mem.tail _ (List.Mem.tail _ (List.Mem.tail _ (List.Mem.head _)))), (List.forall_mem_cons.mpr ⟨(List.Mem.tail _ (List.Mem.tail _ (List.Mem.tail _ (List.Mem.tail _ (List.Mem.head _))))), (List.forall_mem_cons.mpr ⟨(List.Mem.tail _ (List.Mem.tail _ (List.Mem.tail _ (List.Mem.tail _ (List.Mem.tail _ (List.Mem.head _)))))), (fun q h => absurd h List.not_mem_nil)⟩)⟩)⟩)⟩)⟩) (hk A _ Is19 JRLx_s19 JFEQ_s19 JRWJ_s19 JFTK_s19 jb21 JPTJ_s19 (by first | exact oq_f34933ba ws19_89 ws14_89 p1 b10.1 | omega) (by first | exact oq_d7ce4408 ws19_12 ws14_12 p2 | omega) (by first | exact oq_5bcdc35f ws19_74 ws19_0 ws14_74 ws14_0 p3 | omega) (by first | exact oq_5bcdc35f ws19_90 ws19_9 ws14_90 ws14_9 p4 | omega) (by first | exact oq_5bcdc35f ws19_98 ws19_20 ws14_98 ws14_20 p5 | omega) (by first | exact oq_5bcdc35f ws19_107 ws19_70 ws14_107 ws14_70 p6 | omega))
    ·
      exfalso
      omega
    ·
      exfalso
      omega
  ·
    rcases hps19 with mm | mm | mm
    ·
      exfalso
      omega
    ·
      have jb22 : ARJ s19 := ⟨JWQJ_s19, JLIJ_s19, mqj_sam jARJ.2.2.1 (sa4_ts cc.2.2 (sa4_fm Fs19 (by decide +kernel))) (smr_ts (smr_fm Fs14 (by decide +kernel)) (smr_fm Fs19 (by decide +kernel))) (sam_ts (sam_fm Fs14 (by decide)) mm.2.2.1) (sam_ts (sam_fm Fs14 (by decide)) mm.2.2.2), JNZJ_s19, JTWJ_s19, JAIR_s19, JCPL_s19, JRLJ_s19⟩
      refine z_goto X (t := 1894) rfl rfl (w_widen (ce' := ce + 29) (sl' := sl + 222) (by first | exact Nat.le_add_right _ _ | exact Nat.add_le_add_left (by decide) _ | omega) (by first | exact Nat.le_add_right _ _ | exact Nat.add_le_add_left (by decide) _ | omega) ?_)
      exact WS_lv (lv := [(0, .ref q1), (1, .ref (A 0)), (2, .ref (A 179)), (3, .ref (A 517)), (4, .int (Int32.ofInt i))]) (List.forall_mem_cons.mpr ⟨(List.Mem.tail _ (List.Mem.head _)), (List.forall_mem_cons.mpr ⟨(List.Mem.tail _ (List.Mem.tail _ (List.Mem.head _))), (List.forall_mem_cons.mpr ⟨(List.Mem.tail _ (List.Mem.tail _ (List.Mem.tail _ (List.Mem.head _)))), (List.forall_mem_cons.mpr ⟨(List.Mem.tail _ (List.Mem.tail _ (List.Mem.tail _ (List.Mem.tail _ (List.Mem.head _))))), (List.forall_mem_cons.mpr ⟨(List.Mem.tail _ (List.Mem.tail _ (List.Mem.tail _ (List.Mem.tail _ (List.Mem.tail _ (List.Mem.head _)))))), (fun q h => absurd h List.not_mem_nil)⟩)⟩)⟩)⟩)⟩) (hk A _ Is19 JRLx_s19 JFEQ_s19 JRWJ_s19 JFTK_s19 jb22 JPTJ_s19 (by first | exact oq_f34933ba ws19_89 ws14_89 p1 b10.1 | omega) (by first | exact oq_d7ce4408 ws19_12 ws14_12 p2 | omega) (by first | exact oq_5bcdc35f ws19_74 ws19_0 ws14_74 ws14_0 p3 | omega) (by first | exact oq_5bcdc35f ws19_90 ws19_9 ws14_90 ws14_9 p4 | omega) (by first | exact oq_5bcdc35f ws19_98 ws19_20 ws14_98 ws14_20 p5 | omega) (by first | exact oq_5bcdc35f ws19_107 ws19_70 ws14_107 ws14_70 p6 | omega))
    ·
      exfalso
      omega
  ·
    rcases hps19 with mm | mm | mm
    ·
      exfalso
      omega
    ·
      exfalso
      omega
    ·
      have jb23 : ARJ s19 := ⟨JWQJ_s19, JLIJ_s19, mqj_sam jARJ.2.2.1 (sa4_ts cc.2.2.2.2 (sa4_fm Fs19 (by decide +kernel))) (smr_ts (smr_fm Fs14 (by decide +kernel)) (smr_fm Fs19 (by decide +kernel))) (sam_ts (sam_fm Fs14 (by decide)) mm.2.2.2.2.1) (sam_ts (sam_fm Fs14 (by decide)) mm.2.2.2.2.2), JNZJ_s19, JTWJ_s19, JAIR_s19, JCPL_s19, JRLJ_s19⟩
      refine z_goto X (t := 1894) rfl rfl (w_widen (ce' := ce + 29) (sl' := sl + 222) (by first | exact Nat.le_add_right _ _ | exact Nat.add_le_add_left (by decide) _ | omega) (by first | exact Nat.le_add_right _ _ | exact Nat.add_le_add_left (by decide) _ | omega) ?_)
      exact WS_lv (lv := [(0, .ref q1), (1, .ref (A 0)), (2, .ref (A 179)), (3, .ref (A 517)), (4, .int (Int32.ofInt i))]) (List.forall_mem_cons.mpr ⟨(List.Mem.tail _ (List.Mem.head _)), (List.forall_mem_cons.mpr ⟨(List.Mem.tail _ (List.Mem.tail _ (List.Mem.head _))), (List.forall_mem_cons.mpr ⟨(List.Mem.tail _ (List.Mem.tail _ (List.Mem.tail _ (List.Mem.head _)))), (List.forall_mem_cons.mpr ⟨(List.Mem.tail _ (List.Mem.tail _ (List.Mem.tail _ (List.Mem.tail _ (List.Mem.head _))))), (List.forall_mem_cons.mpr ⟨(List.Mem.tail _ (List.Mem.tail _ (List.Mem.tail _ (List.Mem.tail _ (List.Mem.tail _ (List.Mem.head _)))))), (fun q h => absurd h List.not_mem_nil)⟩)⟩)⟩)⟩)⟩) (hk A _ Is19 JRLx_s19 JFEQ_s19 JRWJ_s19 JFTK_s19 jb23 JPTJ_s19 (by first | exact oq_f34933ba ws19_89 ws14_89 p1 b10.1 | omega) (by first | exact oq_d7ce4408 ws19_12 ws14_12 p2 | omega) (by first | exact oq_5bcdc35f ws19_74 ws19_0 ws14_74 ws14_0 p3 | omega) (by first | exact oq_5bcdc35f ws19_90 ws19_9 ws14_90 ws14_9 p4 | omega) (by first | exact oq_5bcdc35f ws19_98 ws19_20 ws14_98 ws14_20 p5 | omega) (by first | exact oq_5bcdc35f ws19_107 ws19_70 ws14_107 ws14_70 p6 | omega))
theorem lc_7 (G : GX l s0 D tys a0 dT) (GR : RS0 s0) (SF : SF0 s0) (GT : TXs0 s0) (GW : TXw0 s0) {k : kx_T} (X : AX k 350 dT) (E : kL k = l ∧ kS0 k = s0 ∧ kD k = D ∧ kR k = room_1) {q1 L : Nat} {xs : Nat → Int32} (S : SX k q1 L xs) (hL : L ≤ 3072) (I : Bd s) (jR : RLx s) (jFEQ : FEQ s) (jRWJ : RWJ s) (jFTK : FTK s) (jARJ : ARJ s) (jPTJ : PTJ s) (p1 : iI s 89 = 1) (p2 : iI s 12 ≤ 8) (p3 : iI s 0 = iI s 74) (p4 : iI s 9 = iI s 90) (p5 : iI s 20 = iI s 98) (p6 : iI s 70 = iI s 107) {i : Int} (hi : 0 ≤ i ∧ i + 6 ≤ (L : Int)) {ce sl : Nat} (hce : ce + 29 ≤ 601024) (hsl : sl + 222 ≤ 7293034) (hk : ∀ (A : Nat → Nat) (t : PS), Bd t → RLx t → FEQ t → RWJ t → FTK t → ARJ t → PTJ t → iI t 89 = 1 → iI t 12 ≤ 8 → iI t 0 = iI t 74 → iI t 9 = iI t 90 → iI t 20 = iI t 98 → iI t 70 = iI t 107 → WS k 1894 [(0, .ref q1), (1, .ref (A 0)), (2, .ref (A 179)), (3, .ref (A 517)), (4, .int (Int32.ofInt i))] [] (Wd A dT t) (ce + 29) (sl + 222)) : WS k 524 [(0, .ref q1), (1, .ref (A 0)), (2, .ref (A 179)), (3, .ref (A 517)), (4, .int (Int32.ofInt i))] [] (Wd A dT s) ce sl := by
  have F : Fm [73] [1460] s s := fm_rf _ _ s
  have b1 := bi_0 I
  have b2 := bi_74 I
  have b3 := bi_9 I
  have b4 := bi_90 I
  have b5 := bi_20 I
  have b6 := bi_98 I
  have b7 := bi_70 I
  have b8 := bi_107 I
  have b9 := bi_12 I
  have b10 := bi_89 I
  refine z_aload_n X (x := A 0) rfl (List.Mem.tail _ (List.Mem.head _)) (z_aload_n X (x := q1) rfl (List.Mem.head _) (z_load X (x := i) rfl (List.Mem.tail _ (List.Mem.tail _ (List.Mem.tail _ (List.Mem.tail _ (List.Mem.head _))))) (z_const X rfl (z_add X rfl (z_sld X S hL rfl (show 0 ≤ (i + 1) ∧ (i + 1) < (L : Int) by first | exact sx_in hi (by decide) | omega) ?_)))))
  have sr11 : rng (sc xs (i + 1)) := sc_rng
  refine z_aload_n X (x := q1) rfl (List.Mem.head _) (z_load X (x := i) rfl (List.Mem.tail _ (List.Mem.tail _ (List.Mem.tail _ (List.Mem.tail _ (List.Mem.head _))))) (z_const X rfl (z_add X rfl (z_sld X S hL rfl (show 0 ≤ (i + 2) ∧ (i + 2) < (L : Int) by first | exact sx_in hi (by decide) | omega) ?_))))
  have sr12 : rng (sc xs (i + 2)) := sc_rng
  refine z_aload_n X (x := A 517) rfl (List.Mem.tail _ (List.Mem.tail _ (List.Mem.tail _ (List.Mem.head _)))) (z_callL X (rm := rmN 319) (As := [.ref (A 0), .int (Int32.ofInt (sc xs (i + 1))), .int (Int32.ofInt (sc xs (i + 2))), .ref (A 517)]) (st := []) rfl (by decide) rfl (by rw [E.1, E.2.1, E.2.2.1]; exact lw_most2 G I (by omega) (by omega)) ⟨by rw [E.2.2.2]; exact (show 9 + 1 ≤ 2048 by decide), by rw [E.2.2.2]; exact (show 8 + (5 + 11) + 166 ≤ 84000 by decide), by rw [E.2.2.2]; exact (show ce + 2 ≤ 601024 by first | exact rmo_1 hce (by decide) | exact rmo_2 hce (by decide) | omega), by rw [E.2.2.2]; exact (show sl + 12 ≤ 7293034 by first | exact rmo_1 hsl (by decide) | exact rmo_2 hsl (by decide) | omega)⟩ (Nat.le_of_ble_eq_true rfl) (fun vv A s13 hA2 hq => ?_) (fun ee A s13 hA2 hq => ?_))
  rotate_left
  · obtain ⟨Is13, Fs13, e14, hv, hrs13, hps13⟩ := hq; cases hv
  obtain ⟨Is13, Fs13, e14, hv, hrs13, hps13⟩ := hq
  cases hv
  rw [← hA2 0 (by decide)]
  rw [← hA2 179 (by decide)]
  rw [← hA2 517 (by decide)]
  have JRLx_s13 : RLx s13 := RLx_fm Fs13 (by decide) jR
  have JFEQ_s13 : FEQ s13 := FEQ_fm Fs13 (by decide) jFEQ
  have JRWJ_s13 : RWJ s13 := RWJ_fm Fs13 (by decide +kernel) jRWJ
  have JFTK_s13 : FTK s13 := FTK_fm Fs13 (by decide) jFTK
  have JARJ_s13 : ARJ s13 := ARJ_fm Fs13 ⟨by decide +kernel, by decide +kernel, by decide +kernel, by decide +kernel, by decide +kernel, by decide +kernel, by decide +kernel, by decide +kernel⟩ jARJ
  have JPTJ_s13 : PTJ s13 := PTJ_fm Fs13 (by decide +kernel) jPTJ
  have ws13_0 : iI s13 0 = iI s 0 := fm_iq Fs13 rfl
  have ws13_74 : iI s13 74 = iI s 74 := fm_iq Fs13 rfl
  have ws13_9 : iI s13 9 = iI s 9 := fm_iq Fs13 rfl
  have ws13_90 : iI s13 90 = iI s 90 := fm_iq Fs13 rfl
  have ws13_20 : iI s13 20 = iI s 20 := fm_iq Fs13 rfl
  have ws13_98 : iI s13 98 = iI s 98 := fm_iq Fs13 rfl
  have ws13_70 : iI s13 70 = iI s 70 := fm_iq Fs13 rfl
  have ws13_107 : iI s13 107 = iI s 107 := fm_iq Fs13 rfl
  have ws13_12 : iI s13 12 = iI s 12 := fm_iq Fs13 rfl
  have ws13_89 : iI s13 89 = iI s 89 := fm_iq Fs13 rfl
  show WS k 541 [(0, .ref q1), (1, .ref (A 0)), (2, .ref (A 179)), (3, .ref (A 517)), (4, .int (Int32.ofInt i))] [.int (Int32.ofInt e14)] (Wd A dT s13) (ce + 2) (sl + 12)
  refine z_store X (lv' := [(5, .int (Int32.ofInt e14)), (0, .ref q1), (1, .ref (A 0)), (2, .ref (A 179)), (3, .ref (A 517)), (4, .int (Int32.ofInt i))]) rfl (by decide) (fun _ h => h) (z_aload_n X (x := A 179) rfl (List.Mem.tail _ (List.Mem.tail _ (List.Mem.tail _ (List.Mem.head _)))) (z_aload_n X (x := q1) rfl (List.Mem.tail _ (List.Mem.head _)) (z_load X (x := i) rfl (List.Mem.tail _ (List.Mem.tail _ (List.Mem.tail _ (List.Mem.tail _ (List.Mem.tail _ (List.Mem.head _)))))) (z_const X rfl (z_add X rfl (z_sld X S hL rfl (show 0 ≤ (i + 1) ∧ (i + 1) < (L : Int) by first | exact sx_in hi (by decide) | omega) ?_))))))
  have sr15 : rng (sc xs (i + 1)) := sc_rng
  refine z_aload_n X (x := q1) rfl (List.Mem.tail _ (List.Mem.head _)) (z_load X (x := i) rfl (List.Mem.tail _ (List.Mem.tail _ (List.Mem.tail _ (List.Mem.tail _ (List.Mem.tail _ (List.Mem.head _)))))) (z_const X rfl (z_add X rfl (z_sld X S hL rfl (show 0 ≤ (i + 2) ∧ (i + 2) < (L : Int) by first | exact sx_in hi (by decide) | omega) ?_))))
  have sr16 : rng (sc xs (i + 2)) := sc_rng
  refine z_callV X 179 (rm := rmN 221) (As := [.int (Int32.ofInt (sc xs (i + 1))), .int (Int32.ofInt (sc xs (i + 2)))]) (st := []) rfl rfl (by decide) rfl (by rw [E.1, E.2.1, E.2.2.1]; exact k_most2 G Is13 (by first | exact ⟨sr15.1, sr15.2⟩ | omega) (by first | exact ⟨sr16.1, sr16.2⟩ | omega)) ⟨by rw [E.2.2.2]; exact (show 8 + 1 ≤ 2048 from oq_5bf2829b), by rw [E.2.2.2]; exact (show 8 + (3 + 11) + 146 ≤ 84000 from oq_263907be), by rw [E.2.2.2]; exact (show (ce + 2) + 0 ≤ 601024 by first | (clear hps13; omega) | omega), by rw [E.2.2.2]; exact (show (sl + 12) + 0 ≤ 7293034 by first | (clear hps13; omega) | omega)⟩ (Nat.le_of_ble_eq_true rfl) (fun vv s17 hq => ?_) (fun ee s17 hq => ?_)
  rotate_left
  · obtain ⟨Is17, Fs17, e18, hv, hrs17, hps17⟩ := hq; cases hv
  obtain ⟨Is17, Fs17, e18, hv, hrs17, hps17⟩ := hq
  cases hv
  have JRLx_s17 : RLx s17 := RLx_fm Fs17 (by decide) JRLx_s13
  have JFEQ_s17 : FEQ s17 := FEQ_fm Fs17 (by decide) JFEQ_s13
  have JRWJ_s17 : RWJ s17 := RWJ_fm Fs17 (by decide +kernel) JRWJ_s13
  have JFTK_s17 : FTK s17 := FTK_fm Fs17 (by decide) JFTK_s13
  have JARJ_s17 : ARJ s17 := ARJ_fm Fs17 ⟨by decide +kernel, by decide +kernel, by decide +kernel, by decide +kernel, by decide +kernel, by decide +kernel, by decide +kernel, by decide +kernel⟩ JARJ_s13
  have JPTJ_s17 : PTJ s17 := PTJ_fm Fs17 (by decide +kernel) JPTJ_s13
  have ws17_0 : iI s17 0 = iI s13 0 := fm_iq Fs17 rfl
  have ws17_74 : iI s17 74 = iI s13 74 := fm_iq Fs17 rfl
  have ws17_9 : iI s17 9 = iI s13 9 := fm_iq Fs17 rfl
  have ws17_90 : iI s17 90 = iI s13 90 := fm_iq Fs17 rfl
  have ws17_20 : iI s17 20 = iI s13 20 := fm_iq Fs17 rfl
  have ws17_98 : iI s17 98 = iI s13 98 := fm_iq Fs17 rfl
  have ws17_70 : iI s17 70 = iI s13 70 := fm_iq Fs17 rfl
  have ws17_107 : iI s17 107 = iI s13 107 := fm_iq Fs17 rfl
  have ws17_12 : iI s17 12 = iI s13 12 := fm_iq Fs17 rfl
  have ws17_89 : iI s17 89 = iI s13 89 := fm_iq Fs17 rfl
  have wos17 : iO s17 = iO s13 := fm_o Fs17 (by decide)
  show WS k 559 [(5, .int (Int32.ofInt e14)), (0, .ref q1), (1, .ref (A 0)), (2, .ref (A 179)), (3, .ref (A 517)), (4, .int (Int32.ofInt i))] [.int (Int32.ofInt e18)] (Wd A dT s17) (ce + 2) (sl + 12)
  refine z_store X (lv' := [(6, .int (Int32.ofInt e18)), (5, .int (Int32.ofInt e14)), (0, .ref q1), (1, .ref (A 0)), (2, .ref (A 179)), (3, .ref (A 517)), (4, .int (Int32.ofInt i))]) rfl (by decide) (fun _ h => h) (z_goto X (t := 1894) rfl rfl (w_widen (ce' := ce + 29) (sl' := sl + 222) (by first | exact Nat.le_add_right _ _ | exact Nat.add_le_add_left (by decide) _ | omega) (by first | exact Nat.le_add_right _ _ | exact Nat.add_le_add_left (by decide) _ | omega) ?_))
  exact WS_lv (lv := [(0, .ref q1), (1, .ref (A 0)), (2, .ref (A 179)), (3, .ref (A 517)), (4, .int (Int32.ofInt i))]) (List.forall_mem_cons.mpr ⟨(List.Mem.tail _ (List.Mem.tail _ (List.Mem.head _))), (List.forall_mem_cons.mpr ⟨(List.Mem.tail _ (List.Mem.tail _ (List.Mem.tail _ (List.Mem.head _)))), (List.forall_mem_cons.mpr ⟨(List.Mem.tail _ (List.Mem.tail _ (List.Mem.tail _ (List.Mem.tail _ (List.Mem.head _))))), (List.forall_mem_cons.mpr ⟨(List.Mem.tail _ (List.Mem.tail _ (List.Mem.tail _ (List.Mem.tail _ (List.Mem.tail _ (List.Mem.head _)))))), (List.forall_mem_cons.mpr ⟨(List.Mem.tail _ (List.Mem.tail _ (List.Mem.tail _ (List.Mem.tail _ (List.Mem.tail _ (List.Mem.tail _ (List.Mem.head _))))))), (fun q h => absurd h List.not_mem_nil)⟩)⟩)⟩)⟩)⟩) (hk A _ Is17 JRLx_s17 JFEQ_s17 JRWJ_s17 JFTK_s17 JARJ_s17 JPTJ_s17 (by first | exact oq_f34933ba ws17_89 ws13_89 p1 b10.1 | omega) (by first | exact oq_d7ce4408 ws17_12 ws13_12 p2 | omega) (by first | exact oq_5bcdc35f ws17_74 ws17_0 ws13_74 ws13_0 p3 | omega) (by first | exact oq_5bcdc35f ws17_90 ws17_9 ws13_90 ws13_9 p4 | omega) (by first | exact oq_5bcdc35f ws17_98 ws17_20 ws13_98 ws13_20 p5 | omega) (by first | exact oq_5bcdc35f ws17_107 ws17_70 ws13_107 ws13_70 p6 | omega))
theorem lc_8 (G : GX l s0 D tys a0 dT) (GR : RS0 s0) (SF : SF0 s0) (GT : TXs0 s0) (GW : TXw0 s0) {k : kx_T} (X : AX k 350 dT) (E : kL k = l ∧ kS0 k = s0 ∧ kD k = D ∧ kR k = room_1) {q1 L : Nat} {xs : Nat → Int32} (S : SX k q1 L xs) (hL : L ≤ 3072) (I : Bd s) (jR : RLx s) (jFEQ : FEQ s) (jRWJ : RWJ s) (jFTK : FTK s) (jARJ : ARJ s) (jPTJ : PTJ s) (p1 : iI s 89 = 1) (p2 : iI s 12 ≤ 8) (p3 : iI s 0 = iI s 74) (p4 : iI s 9 = iI s 90) (p5 : iI s 20 = iI s 98) (p6 : iI s 70 = iI s 107) {i : Int} (hi : 0 ≤ i ∧ i + 6 ≤ (L : Int)) {ce sl : Nat} (hce : ce + 29 ≤ 601024) (hsl : sl + 222 ≤ 7293034) (hk : ∀ (A : Nat → Nat) (t : PS), Bd t → RLx t → FEQ t → RWJ t → FTK t → ARJ t → PTJ t → iI t 89 = 1 → iI t 12 ≤ 8 → iI t 0 = iI t 74 → iI t 9 = iI t 90 → iI t 20 = iI t 98 → iI t 70 = iI t 107 → WS k 1894 [(0, .ref q1), (1, .ref (A 0)), (2, .ref (A 179)), (3, .ref (A 517)), (4, .int (Int32.ofInt i))] [] (Wd A dT t) (ce + 29) (sl + 222)) : WS k 564 [(0, .ref q1), (1, .ref (A 0)), (2, .ref (A 179)), (3, .ref (A 517)), (4, .int (Int32.ofInt i))] [] (Wd A dT s) ce sl := by
  have F : Fm [73] [21, 1022, 1023, 1460, 228] s s := fm_rf _ _ s
  have b1 := bi_0 I
  have b2 := bi_74 I
  have b3 := bi_9 I
  have b4 := bi_90 I
  have b5 := bi_20 I
  have b6 := bi_98 I
  have b7 := bi_70 I
  have b8 := bi_107 I
  have b9 := bi_12 I
  have b10 := bi_89 I
  refine z_aload_n X (x := A 0) rfl (List.Mem.tail _ (List.Mem.head _)) (z_aload_n X (x := q1) rfl (List.Mem.head _) (z_load X (x := i) rfl (List.Mem.tail _ (List.Mem.tail _ (List.Mem.tail _ (List.Mem.tail _ (List.Mem.head _))))) (z_const X rfl (z_add X rfl (z_sld X S hL rfl (show 0 ≤ (i + 1) ∧ (i + 1) < (L : Int) by first | exact sx_in hi (by decide) | omega) ?_)))))
  have sr11 : rng (sc xs (i + 1)) := sc_rng
  refine z_aload_n X (x := q1) rfl (List.Mem.head _) (z_load X (x := i) rfl (List.Mem.tail _ (List.Mem.tail _ (List.Mem.tail _ (List.Mem.tail _ (List.Mem.head _))))) (z_const X rfl (z_add X rfl (z_sld X S hL rfl (show 0 ≤ (i + 2) ∧ (i + 2) < (L : Int) by first | exact sx_in hi (by decide) | omega) ?_))))
  have sr12 : rng (sc xs (i + 2)) := sc_rng
  refine z_aload_n X (x := A 517) rfl (List.Mem.tail _ (List.Mem.tail _ (List.Mem.tail _ (List.Mem.head _)))) (z_callL X (rm := rmN 320) (As := [.ref (A 0), .int (Int32.ofInt (sc xs (i + 1))), .int (Int32.ofInt (sc xs (i + 2))), .ref (A 517)]) (st := []) rfl (by decide) rfl (by rw [E.1, E.2.1, E.2.2.1]; exact lw_assign6 G I jPTJ.1 (by omega) (by omega)) ⟨by rw [E.2.2.2]; exact (show 8 + 1 ≤ 2048 by decide), by rw [E.2.2.2]; exact (show 8 + (5 + 11) + 148 ≤ 84000 by decide), by rw [E.2.2.2]; exact (show ce + 2 ≤ 601024 by first | exact rmo_1 hce (by decide) | exact rmo_2 hce (by decide) | omega), by rw [E.2.2.2]; exact (show sl + 12 ≤ 7293034 by first | exact rmo_1 hsl (by decide) | exact rmo_2 hsl (by decide) | omega)⟩ (Nat.le_of_ble_eq_true rfl) (fun vv A s13 hA2 hq => ?_) (fun ee A s13 hA2 hq => ?_))
  rotate_left
  · obtain ⟨Is13, Fs13, JPMJ_s13, e14, hv, hrs13, hps13⟩ := hq; cases hv
  obtain ⟨Is13, Fs13, JPMJ_s13, e14, hv, hrs13, hps13⟩ := hq
  cases hv
  rw [← hA2 0 (by decide)]
  rw [← hA2 179 (by decide)]
  rw [← hA2 517 (by decide)]
  have JRLx_s13 : RLx s13 := RLx_fm Fs13 (by decide) jR
  have JFEQ_s13 : FEQ s13 := FEQ_fm Fs13 (by decide) jFEQ
  have JRWJ_s13 : RWJ s13 := RWJ_fm Fs13 (by decide +kernel) jRWJ
  have JFTK_s13 : FTK s13 := FTK_fm Fs13 (by decide) jFTK
  have JARJ_s13 : ARJ s13 := ARJ_fm Fs13 ⟨by decide +kernel, by decide +kernel, by decide +kernel, by decide +kernel, by decide +kernel, by decide +kernel, by decide +kernel, by decide +kernel⟩ jARJ
  have JALJ_s13 : AEQ 24 229 8 s13 := ALJ_fm Fs13 (by decide) jPTJ.2.2.1
  have JMKJ_s13 : MKJ s13 := MKJ_fm Fs13 (by decide +kernel) jPTJ.2.2.2
  have ws13_0 : iI s13 0 = iI s 0 := fm_iq Fs13 rfl
  have ws13_74 : iI s13 74 = iI s 74 := fm_iq Fs13 rfl
  have ws13_9 : iI s13 9 = iI s 9 := fm_iq Fs13 rfl
  have ws13_90 : iI s13 90 = iI s 90 := fm_iq Fs13 rfl
  have ws13_20 : iI s13 20 = iI s 20 := fm_iq Fs13 rfl
  have ws13_98 : iI s13 98 = iI s 98 := fm_iq Fs13 rfl
  have ws13_70 : iI s13 70 = iI s 70 := fm_iq Fs13 rfl
  have ws13_107 : iI s13 107 = iI s 107 := fm_iq Fs13 rfl
  have ws13_12 : iI s13 12 = iI s 12 := fm_iq Fs13 rfl
  have ws13_89 : iI s13 89 = iI s 89 := fm_iq Fs13 rfl
  show WS k 581 [(0, .ref q1), (1, .ref (A 0)), (2, .ref (A 179)), (3, .ref (A 517)), (4, .int (Int32.ofInt i))] [.int (Int32.ofInt e14)] (Wd A dT s13) (ce + 2) (sl + 12)
  refine z_store X (lv' := [(5, .int (Int32.ofInt e14)), (0, .ref q1), (1, .ref (A 0)), (2, .ref (A 179)), (3, .ref (A 517)), (4, .int (Int32.ofInt i))]) rfl (by decide) (fun _ h => h) (z_aload_n X (x := A 179) rfl (List.Mem.tail _ (List.Mem.tail _ (List.Mem.tail _ (List.Mem.head _)))) (z_aload_n X (x := q1) rfl (List.Mem.tail _ (List.Mem.head _)) (z_load X (x := i) rfl (List.Mem.tail _ (List.Mem.tail _ (List.Mem.tail _ (List.Mem.tail _ (List.Mem.tail _ (List.Mem.head _)))))) (z_const X rfl (z_add X rfl (z_sld X S hL rfl (show 0 ≤ (i + 1) ∧ (i + 1) < (L : Int) by first | exact sx_in hi (by decide) | omega) ?_))))))
  have sr15 : rng (sc xs (i + 1)) := sc_rng
  refine z_aload_n X (x := q1) rfl (List.Mem.tail _ (List.Mem.head _)) (z_load X (x := i) rfl (List.Mem.tail _ (List.Mem.tail _ (List.Mem.tail _ (List.Mem.tail _ (List.Mem.tail _ (List.Mem.head _)))))) (z_const X rfl (z_add X rfl (z_sld X S hL rfl (show 0 ≤ (i + 2) ∧ (i + 2) < (L : Int) by first | exact sx_in hi (by decide) | omega) ?_))))
  have sr16 : rng (sc xs (i + 2)) := sc_rng
  refine z_callV X 179 (rm := rmN 234) (As := [.int (Int32.ofInt (sc xs (i + 1))), .int (Int32.ofInt (sc xs (i + 2)))]) (st := []) rfl rfl (by decide) rfl (by rw [E.1, E.2.1, E.2.2.1]; exact k_assign6 G Is13 (by first | exact ⟨sr15.1, sr15.2⟩ | omega) (by first | exact ⟨sr16.1, sr16.2⟩ | omega)) ⟨by rw [E.2.2.2]; exact (show 7 + 1 ≤ 2048 from oq_4e6106eb), by rw [E.2.2.2]; exact (show 8 + (4 + 11) + 122 ≤ 84000 from oq_ebbf79c1), by rw [E.2.2.2]; exact (show (ce + 2) + 0 ≤ 601024 by first | (clear hps13; omega) | omega), by rw [E.2.2.2]; exact (show (sl + 12) + 0 ≤ 7293034 by first | (clear hps13; omega) | omega)⟩ (Nat.le_of_ble_eq_true rfl) (fun vv s17 hq => ?_) (fun ee s17 hq => ?_)
  rotate_left
  · obtain ⟨Is17, Fs17, e18, hv, hrs17, hps17⟩ := hq; cases hv
  obtain ⟨Is17, Fs17, e18, hv, hrs17, hps17⟩ := hq
  cases hv
  have JRLx_s17 : RLx s17 := RLx_fm Fs17 (by decide) JRLx_s13
  have JFEQ_s17 : FEQ s17 := FEQ_fm Fs17 (by decide) JFEQ_s13
  have JRWJ_s17 : RWJ s17 := RWJ_fm Fs17 (by decide +kernel) JRWJ_s13
  have JFTK_s17 : FTK s17 := FTK_fm Fs17 (by decide) JFTK_s13
  have JARJ_s17 : ARJ s17 := ARJ_fm Fs17 ⟨by decide +kernel, by decide +kernel, by decide +kernel, by decide +kernel, by decide +kernel, by decide +kernel, by decide +kernel, by decide +kernel⟩ JARJ_s13
  have JALJ_s17 : AEQ 24 229 8 s17 := ALJ_fm Fs17 (by decide) JALJ_s13
  have JMKJ_s17 : MKJ s17 := MKJ_fm Fs17 (by decide +kernel) JMKJ_s13
  have JPMJ_s17 : PMJ s17 := PMJ_fm Fs17 (by decide +kernel) JPMJ_s13
  have ws17_0 : iI s17 0 = iI s13 0 := fm_iq Fs17 rfl
  have ws17_74 : iI s17 74 = iI s13 74 := fm_iq Fs17 rfl
  have ws17_9 : iI s17 9 = iI s13 9 := fm_iq Fs17 rfl
  have ws17_90 : iI s17 90 = iI s13 90 := fm_iq Fs17 rfl
  have ws17_20 : iI s17 20 = iI s13 20 := fm_iq Fs17 rfl
  have ws17_98 : iI s17 98 = iI s13 98 := fm_iq Fs17 rfl
  have ws17_70 : iI s17 70 = iI s13 70 := fm_iq Fs17 rfl
  have ws17_107 : iI s17 107 = iI s13 107 := fm_iq Fs17 rfl
  have ws17_12 : iI s17 12 = iI s13 12 := fm_iq Fs17 rfl
  have ws17_89 : iI s17 89 = iI s13 89 := fm_iq Fs17 rfl
  have wos17 : iO s17 = iO s13 := fm_o Fs17 (by decide)
  show WS k 599 [(5, .int (Int32.ofInt e14)), (0, .ref q1), (1, .ref (A 0)), (2, .ref (A 179)), (3, .ref (A 517)), (4, .int (Int32.ofInt i))] [.int (Int32.ofInt e18)] (Wd A dT s17) (ce + 2) (sl + 12)
  rcases hps13 with cc | cc
  ·
    rcases hps17 with mm | mm
    ·
      have jb19 : PTJ s17 := ⟨JPMJ_s17, aeq_upd jPTJ.2.1 cc.2.2.2.2.2.2 (sam_fm Fs13 (by decide +kernel)) mm.2.2.2.2.2.2 (sam_fm Fs17 (by decide +kernel)), JALJ_s17, JMKJ_s17⟩
      have rq20 := aeq_at (i := (sc xs (i + 1))) jPTJ.2.1 (sam_fm Fs13 (by decide +kernel)) (by first | (clear hps17 hps13; omega) | (clear hps13; omega) | omega)
      refine z_store X (lv' := [(6, .int (Int32.ofInt e18)), (5, .int (Int32.ofInt e14)), (0, .ref q1), (1, .ref (A 0)), (2, .ref (A 179)), (3, .ref (A 517)), (4, .int (Int32.ofInt i))]) rfl (by decide) (fun _ h => h) (z_goto X (t := 1894) rfl rfl (w_widen (ce' := ce + 29) (sl' := sl + 222) (by first | exact Nat.le_add_right _ _ | exact Nat.add_le_add_left (by decide) _ | omega) (by first | exact Nat.le_add_right _ _ | exact Nat.add_le_add_left (by decide) _ | omega) ?_))
      exact WS_lv (lv := [(0, .ref q1), (1, .ref (A 0)), (2, .ref (A 179)), (3, .ref (A 517)), (4, .int (Int32.ofInt i))]) (List.forall_mem_cons.mpr ⟨(List.Mem.tail _ (List.Mem.tail _ (List.Mem.head _))), (List.forall_mem_cons.mpr ⟨(List.Mem.tail _ (List.Mem.tail _ (List.Mem.tail _ (List.Mem.head _)))), (List.forall_mem_cons.mpr ⟨(List.Mem.tail _ (List.Mem.tail _ (List.Mem.tail _ (List.Mem.tail _ (List.Mem.head _))))), (List.forall_mem_cons.mpr ⟨(List.Mem.tail _ (List.Mem.tail _ (List.Mem.tail _ (List.Mem.tail _ (List.Mem.tail _ (List.Mem.head _)))))), (List.forall_mem_cons.mpr ⟨(List.Mem.tail _ (List.Mem.tail _ (List.Mem.tail _ (List.Mem.tail _ (List.Mem.tail _ (List.Mem.tail _ (List.Mem.head _))))))), (fun q h => absurd h List.not_mem_nil)⟩)⟩)⟩)⟩)⟩) (hk A _ Is17 JRLx_s17 JFEQ_s17 JRWJ_s17 JFTK_s17 JARJ_s17 jb19 (by first | exact oq_f34933ba ws17_89 ws13_89 p1 b10.1 | omega) (by first | exact oq_d7ce4408 ws17_12 ws13_12 p2 | omega) (by first | exact oq_5bcdc35f ws17_74 ws17_0 ws13_74 ws13_0 p3 | omega) (by first | exact oq_5bcdc35f ws17_90 ws17_9 ws13_90 ws13_9 p4 | omega) (by first | exact oq_5bcdc35f ws17_98 ws17_20 ws13_98 ws13_20 p5 | omega) (by first | exact oq_5bcdc35f ws17_107 ws17_70 ws13_107 ws13_70 p6 | omega))
    ·
      exfalso
      omega
  ·
    rcases hps17 with mm | mm
    ·
      exfalso
      omega
    ·
      have jb21 : PTJ s17 := ⟨JPMJ_s17, aeq_sam jPTJ.2.1 (sam_ts cc.2 (sam_fm Fs17 (by decide +kernel))) (sam_ts (sam_fm Fs13 (by decide +kernel)) mm.2), JALJ_s17, JMKJ_s17⟩
      refine z_store X (lv' := [(6, .int (Int32.ofInt e18)), (5, .int (Int32.ofInt e14)), (0, .ref q1), (1, .ref (A 0)), (2, .ref (A 179)), (3, .ref (A 517)), (4, .int (Int32.ofInt i))]) rfl (by decide) (fun _ h => h) (z_goto X (t := 1894) rfl rfl (w_widen (ce' := ce + 29) (sl' := sl + 222) (by first | exact Nat.le_add_right _ _ | exact Nat.add_le_add_left (by decide) _ | omega) (by first | exact Nat.le_add_right _ _ | exact Nat.add_le_add_left (by decide) _ | omega) ?_))
      exact WS_lv (lv := [(0, .ref q1), (1, .ref (A 0)), (2, .ref (A 179)), (3, .ref (A 517)), (4, .int (Int32.ofInt i))]) (List.forall_mem_cons.mpr ⟨(List.Mem.tail _ (List.Mem.tail _ (List.Mem.head _))), (List.forall_mem_cons.mpr ⟨(List.Mem.tail _ (List.Mem.tail _ (List.Mem.tail _ (List.Mem.head _)))), (List.forall_mem_cons.mpr ⟨(List.Mem.tail _ (List.Mem.tail _ (List.Mem.tail _ (List.Mem.tail _ (List.Mem.head _))))), (List.forall_mem_cons.mpr ⟨(List.Mem.tail _ (List.Mem.tail _ (List.Mem.tail _ (List.Mem.tail _ (List.Mem.tail _ (List.Mem.head _)))))), (List.forall_mem_cons.mpr ⟨(List.Mem.tail _ (List.Mem.tail _ (List.Mem.tail _ (List.Mem.tail _ (List.Mem.tail _ (List.Mem.tail _ (List.Mem.head _))))))), (fun q h => absurd h List.not_mem_nil)⟩)⟩)⟩)⟩)⟩) (hk A _ Is17 JRLx_s17 JFEQ_s17 JRWJ_s17 JFTK_s17 JARJ_s17 jb21 (by first | exact oq_f34933ba ws17_89 ws13_89 p1 b10.1 | omega) (by first | exact oq_d7ce4408 ws17_12 ws13_12 p2 | omega) (by first | exact oq_5bcdc35f ws17_74 ws17_0 ws13_74 ws13_0 p3 | omega) (by first | exact oq_5bcdc35f ws17_90 ws17_9 ws13_90 ws13_9 p4 | omega) (by first | exact oq_5bcdc35f ws17_98 ws17_20 ws13_98 ws13_20 p5 | omega) (by first | exact oq_5bcdc35f ws17_107 ws17_70 ws13_107 ws13_70 p6 | omega))
theorem lc_9 (G : GX l s0 D tys a0 dT) (GR : RS0 s0) (SF : SF0 s0) (GT : TXs0 s0) (GW : TXw0 s0) {k : kx_T} (X : AX k 350 dT) (E : kL k = l ∧ kS0 k = s0 ∧ kD k = D ∧ kR k = room_1) {q1 L : Nat} {xs : Nat → Int32} (S : SX k q1 L xs) (hL : L ≤ 3072) (I : Bd s) (jR : RLx s) (jFEQ : FEQ s) (jRWJ : RWJ s) (jFTK : FTK s) (jARJ : ARJ s) (jPTJ : PTJ s) (p1 : iI s 89 = 1) (p2 : iI s 12 ≤ 8) (p3 : iI s 0 = iI s 74) (p4 : iI s 9 = iI s 90) (p5 : iI s 20 = iI s 98) (p6 : iI s 70 = iI s 107) {i : Int} (hi : 0 ≤ i ∧ i + 6 ≤ (L : Int)) {ce sl : Nat} (hce : ce + 29 ≤ 601024) (hsl : sl + 222 ≤ 7293034) (hk : ∀ (A : Nat → Nat) (t : PS), Bd t → RLx t → FEQ t → RWJ t → FTK t → ARJ t → PTJ t → iI t 89 = 1 → iI t 12 ≤ 8 → iI t 0 = iI t 74 → iI t 9 = iI t 90 → iI t 20 = iI t 98 → iI t 70 = iI t 107 → WS k 1894 [(0, .ref q1), (1, .ref (A 0)), (2, .ref (A 179)), (3, .ref (A 517)), (4, .int (Int32.ofInt i))] [] (Wd A dT t) (ce + 29) (sl + 222)) : WS k 604 [(0, .ref q1), (1, .ref (A 0)), (2, .ref (A 179)), (3, .ref (A 517)), (4, .int (Int32.ofInt i))] [] (Wd A dT s) ce sl := by
  have F : Fm [73] [21, 1022, 1023, 1460, 228] s s := fm_rf _ _ s
  have b1 := bi_0 I
  have b2 := bi_74 I
  have b3 := bi_9 I
  have b4 := bi_90 I
  have b5 := bi_20 I
  have b6 := bi_98 I
  have b7 := bi_70 I
  have b8 := bi_107 I
  have b9 := bi_12 I
  have b10 := bi_89 I
  refine z_aload_n X (x := A 0) rfl (List.Mem.tail _ (List.Mem.head _)) (z_aload_n X (x := q1) rfl (List.Mem.head _) (z_load X (x := i) rfl (List.Mem.tail _ (List.Mem.tail _ (List.Mem.tail _ (List.Mem.tail _ (List.Mem.head _))))) (z_const X rfl (z_add X rfl (z_sld X S hL rfl (show 0 ≤ (i + 1) ∧ (i + 1) < (L : Int) by first | exact sx_in hi (by decide) | omega) ?_)))))
  have sr11 : rng (sc xs (i + 1)) := sc_rng
  refine z_aload_n X (x := q1) rfl (List.Mem.head _) (z_load X (x := i) rfl (List.Mem.tail _ (List.Mem.tail _ (List.Mem.tail _ (List.Mem.tail _ (List.Mem.head _))))) (z_const X rfl (z_add X rfl (z_sld X S hL rfl (show 0 ≤ (i + 2) ∧ (i + 2) < (L : Int) by first | exact sx_in hi (by decide) | omega) ?_))))
  have sr12 : rng (sc xs (i + 2)) := sc_rng
  refine z_aload_n X (x := q1) rfl (List.Mem.head _) (z_load X (x := i) rfl (List.Mem.tail _ (List.Mem.tail _ (List.Mem.tail _ (List.Mem.tail _ (List.Mem.head _))))) (z_const X rfl (z_add X rfl (z_sld X S hL rfl (show 0 ≤ (i + 3) ∧ (i + 3) < (L : Int) by first | exact sx_in hi (by decide) | omega) ?_))))
  have sr13 : rng (sc xs (i + 3)) := sc_rng
  refine z_aload_n X (x := A 517) rfl (List.Mem.tail _ (List.Mem.tail _ (List.Mem.tail _ (List.Mem.head _)))) (z_callL X (rm := rmN 321) (As := [.ref (A 0), .int (Int32.ofInt (sc xs (i + 1))), .int (Int32.ofInt (sc xs (i + 2))), .int (Int32.ofInt (sc xs (i + 3))), .ref (A 517)]) (st := []) rfl (by decide) rfl (by rw [E.1, E.2.1, E.2.2.1]; exact lw_paint6 G I jPTJ.1 (by omega) (by omega) (by omega)) ⟨by rw [E.2.2.2]; exact (show 9 + 1 ≤ 2048 by decide), by rw [E.2.2.2]; exact (show 8 + (6 + 11) + 175 ≤ 84000 by decide), by rw [E.2.2.2]; exact (show ce + 4 ≤ 601024 by first | exact rmo_1 hce (by decide) | exact rmo_2 hce (by decide) | omega), by rw [E.2.2.2]; exact (show sl + 24 ≤ 7293034 by first | exact rmo_1 hsl (by decide) | exact rmo_2 hsl (by decide) | omega)⟩ (Nat.le_of_ble_eq_true rfl) (fun vv A s14 hA2 hq => ?_) (fun ee A s14 hA2 hq => ?_))
  rotate_left
  · obtain ⟨Is14, Fs14, JPMJ_s14, e15, hv, hrs14, hps14⟩ := hq; cases hv
  obtain ⟨Is14, Fs14, JPMJ_s14, e15, hv, hrs14, hps14⟩ := hq
  cases hv
  rw [← hA2 0 (by decide)]
  rw [← hA2 179 (by decide)]
  rw [← hA2 517 (by decide)]
  have JRLx_s14 : RLx s14 := RLx_fm Fs14 (by decide) jR
  have JFEQ_s14 : FEQ s14 := FEQ_fm Fs14 (by decide) jFEQ
  have JRWJ_s14 : RWJ s14 := RWJ_fm Fs14 (by decide +kernel) jRWJ
  have JFTK_s14 : FTK s14 := FTK_fm Fs14 (by decide) jFTK
  have JARJ_s14 : ARJ s14 := ARJ_fm Fs14 ⟨by decide +kernel, by decide +kernel, by decide +kernel, by decide +kernel, by decide +kernel, by decide +kernel, by decide +kernel, by decide +kernel⟩ jARJ
  have JALJ_s14 : AEQ 24 229 8 s14 := ALJ_fm Fs14 (by decide) jPTJ.2.2.1
  have JMKJ_s14 : MKJ s14 := MKJ_fm Fs14 (by decide +kernel) jPTJ.2.2.2
  have ws14_0 : iI s14 0 = iI s 0 := fm_iq Fs14 rfl
  have ws14_74 : iI s14 74 = iI s 74 := fm_iq Fs14 rfl
  have ws14_9 : iI s14 9 = iI s 9 := fm_iq Fs14 rfl
  have ws14_90 : iI s14 90 = iI s 90 := fm_iq Fs14 rfl
  have ws14_20 : iI s14 20 = iI s 20 := fm_iq Fs14 rfl
  have ws14_98 : iI s14 98 = iI s 98 := fm_iq Fs14 rfl
  have ws14_70 : iI s14 70 = iI s 70 := fm_iq Fs14 rfl
  have ws14_107 : iI s14 107 = iI s 107 := fm_iq Fs14 rfl
  have ws14_12 : iI s14 12 = iI s 12 := fm_iq Fs14 rfl
  have ws14_89 : iI s14 89 = iI s 89 := fm_iq Fs14 rfl
  show WS k 627 [(0, .ref q1), (1, .ref (A 0)), (2, .ref (A 179)), (3, .ref (A 517)), (4, .int (Int32.ofInt i))] [.int (Int32.ofInt e15)] (Wd A dT s14) (ce + 4) (sl + 24)
  refine z_store X (lv' := [(5, .int (Int32.ofInt e15)), (0, .ref q1), (1, .ref (A 0)), (2, .ref (A 179)), (3, .ref (A 517)), (4, .int (Int32.ofInt i))]) rfl (by decide) (fun _ h => h) (z_aload_n X (x := A 179) rfl (List.Mem.tail _ (List.Mem.tail _ (List.Mem.tail _ (List.Mem.head _)))) (z_aload_n X (x := q1) rfl (List.Mem.tail _ (List.Mem.head _)) (z_load X (x := i) rfl (List.Mem.tail _ (List.Mem.tail _ (List.Mem.tail _ (List.Mem.tail _ (List.Mem.tail _ (List.Mem.head _)))))) (z_const X rfl (z_add X rfl (z_sld X S hL rfl (show 0 ≤ (i + 1) ∧ (i + 1) < (L : Int) by first | exact sx_in hi (by decide) | omega) ?_))))))
  have sr16 : rng (sc xs (i + 1)) := sc_rng
  refine z_aload_n X (x := q1) rfl (List.Mem.tail _ (List.Mem.head _)) (z_load X (x := i) rfl (List.Mem.tail _ (List.Mem.tail _ (List.Mem.tail _ (List.Mem.tail _ (List.Mem.tail _ (List.Mem.head _)))))) (z_const X rfl (z_add X rfl (z_sld X S hL rfl (show 0 ≤ (i + 2) ∧ (i + 2) < (L : Int) by first | exact sx_in hi (by decide) | omega) ?_))))
  have sr17 : rng (sc xs (i + 2)) := sc_rng
  refine z_aload_n X (x := q1) rfl (List.Mem.tail _ (List.Mem.head _)) (z_load X (x := i) rfl (List.Mem.tail _ (List.Mem.tail _ (List.Mem.tail _ (List.Mem.tail _ (List.Mem.tail _ (List.Mem.head _)))))) (z_const X rfl (z_add X rfl (z_sld X S hL rfl (show 0 ≤ (i + 3) ∧ (i + 3) < (L : Int) by first | exact sx_in hi (by decide) | omega) ?_))))
  have sr18 : rng (sc xs (i + 3)) := sc_rng
  refine z_callV X 179 (rm := rmN 235) (As := [.int (Int32.ofInt (sc xs (i + 1))), .int (Int32.ofInt (sc xs (i + 2))), .int (Int32.ofInt (sc xs (i + 3)))]) (st := []) rfl rfl (by decide) rfl (by rw [E.1, E.2.1, E.2.2.1]; exact k_paint6 G Is14 (by first | exact ⟨sr16.1, sr16.2⟩ | omega) (by first | exact ⟨sr17.1, sr17.2⟩ | omega) (by first | exact ⟨sr18.1, sr18.2⟩ | omega)) ⟨by rw [E.2.2.2]; exact (show 7 + 1 ≤ 2048 from oq_4e6106eb), by rw [E.2.2.2]; exact (show 8 + (6 + 11) + 122 ≤ 84000 from oq_380e4f97), by rw [E.2.2.2]; exact (show (ce + 4) + 0 ≤ 601024 by first | (clear hps14; omega) | omega), by rw [E.2.2.2]; exact (show (sl + 24) + 0 ≤ 7293034 by first | (clear hps14; omega) | omega)⟩ (Nat.le_of_ble_eq_true rfl) (fun vv s19 hq => ?_) (fun ee s19 hq => ?_)
  rotate_left
  · obtain ⟨Is19, Fs19, e20, hv, hrs19, hps19⟩ := hq; cases hv
  obtain ⟨Is19, Fs19, e20, hv, hrs19, hps19⟩ := hq
  cases hv
  have JRLx_s19 : RLx s19 := RLx_fm Fs19 (by decide) JRLx_s14
  have JFEQ_s19 : FEQ s19 := FEQ_fm Fs19 (by decide) JFEQ_s14
  have JRWJ_s19 : RWJ s19 := RWJ_fm Fs19 (by decide +kernel) JRWJ_s14
  have JFTK_s19 : FTK s19 := FTK_fm Fs19 (by decide) JFTK_s14
  have JARJ_s19 : ARJ s19 := ARJ_fm Fs19 ⟨by decide +kernel, by decide +kernel, by decide +kernel, by decide +kernel, by decide +kernel, by decide +kernel, by decide +kernel, by decide +kernel⟩ JARJ_s14
  have JALJ_s19 : AEQ 24 229 8 s19 := ALJ_fm Fs19 (by decide) JALJ_s14
  have JMKJ_s19 : MKJ s19 := MKJ_fm Fs19 (by decide +kernel) JMKJ_s14
  have JPMJ_s19 : PMJ s19 := PMJ_fm Fs19 (by decide +kernel) JPMJ_s14
  have ws19_0 : iI s19 0 = iI s14 0 := fm_iq Fs19 rfl
  have ws19_74 : iI s19 74 = iI s14 74 := fm_iq Fs19 rfl
  have ws19_9 : iI s19 9 = iI s14 9 := fm_iq Fs19 rfl
  have ws19_90 : iI s19 90 = iI s14 90 := fm_iq Fs19 rfl
  have ws19_20 : iI s19 20 = iI s14 20 := fm_iq Fs19 rfl
  have ws19_98 : iI s19 98 = iI s14 98 := fm_iq Fs19 rfl
  have ws19_70 : iI s19 70 = iI s14 70 := fm_iq Fs19 rfl
  have ws19_107 : iI s19 107 = iI s14 107 := fm_iq Fs19 rfl
  have ws19_12 : iI s19 12 = iI s14 12 := fm_iq Fs19 rfl
  have ws19_89 : iI s19 89 = iI s14 89 := fm_iq Fs19 rfl
  have wos19 : iO s19 = iO s14 := fm_o Fs19 (by decide)
  show WS k 651 [(5, .int (Int32.ofInt e15)), (0, .ref q1), (1, .ref (A 0)), (2, .ref (A 179)), (3, .ref (A 517)), (4, .int (Int32.ofInt i))] [.int (Int32.ofInt e20)] (Wd A dT s19) (ce + 4) (sl + 24)
  rcases hps14 with cc | cc
  ·
    rcases hps19 with mm | mm
    ·
      have hAP := apj_pnq jPTJ.2.1 cc.2.2.2.2.2.2 mm.2.2 (sam_fm Fs14 (by decide +kernel)) (sam_fm Fs19 (by decide +kernel))
      have rq21 := hAP.1
      have jb22 : PTJ s19 := ⟨JPMJ_s19, hAP.2, JALJ_s19, JMKJ_s19⟩
      refine z_store X (lv' := [(6, .int (Int32.ofInt e20)), (5, .int (Int32.ofInt e15)), (0, .ref q1), (1, .ref (A 0)), (2, .ref (A 179)), (3, .ref (A 517)), (4, .int (Int32.ofInt i))]) rfl (by decide) (fun _ h => h) (z_goto X (t := 1894) rfl rfl (w_widen (ce' := ce + 29) (sl' := sl + 222) (by first | exact Nat.le_add_right _ _ | exact Nat.add_le_add_left (by decide) _ | omega) (by first | exact Nat.le_add_right _ _ | exact Nat.add_le_add_left (by decide) _ | omega) ?_))
      exact WS_lv (lv := [(0, .ref q1), (1, .ref (A 0)), (2, .ref (A 179)), (3, .ref (A 517)), (4, .int (Int32.ofInt i))]) (List.forall_mem_cons.mpr ⟨(List.Mem.tail _ (List.Mem.tail _ (List.Mem.head _))), (List.forall_mem_cons.mpr ⟨(List.Mem.tail _ (List.Mem.tail _ (List.Mem.tail _ (List.Mem.head _)))), (List.forall_mem_cons.mpr ⟨(List.Mem.tail _ (List.Mem.tail _ (List.Mem.tail _ (List.Mem.tail _ (List.Mem.head _))))), (List.forall_mem_cons.mpr ⟨(List.Mem.tail _ (List.Mem.tail _ (List.Mem.tail _ (List.Mem.tail _ (List.Mem.tail _ (List.Mem.head _)))))), (List.forall_mem_cons.mpr ⟨(List.Mem.tail _ (List.Mem.tail _ (List.Mem.tail _ (List.Mem.tail _ (List.Mem.tail _ (List.Mem.tail _ (List.Mem.head _))))))), (fun q h => absurd h List.not_mem_nil)⟩)⟩)⟩)⟩)⟩) (hk A _ Is19 JRLx_s19 JFEQ_s19 JRWJ_s19 JFTK_s19 JARJ_s19 jb22 (by first | exact oq_f34933ba ws19_89 ws14_89 p1 b10.1 | omega) (by first | exact oq_d7ce4408 ws19_12 ws14_12 p2 | omega) (by first | exact oq_5bcdc35f ws19_74 ws19_0 ws14_74 ws14_0 p3 | omega) (by first | exact oq_5bcdc35f ws19_90 ws19_9 ws14_90 ws14_9 p4 | omega) (by first | exact oq_5bcdc35f ws19_98 ws19_20 ws14_98 ws14_20 p5 | omega) (by first | exact oq_5bcdc35f ws19_107 ws19_70 ws14_107 ws14_70 p6 | omega))
    ·
      exfalso
      omega
  ·
    rcases hps19 with mm | mm
    ·
      exfalso
      omega
    ·
      have jb23 : PTJ s19 := ⟨JPMJ_s19, aeq_sam jPTJ.2.1 (sam_ts cc.2 (sam_fm Fs19 (by decide +kernel))) (sam_ts (sam_fm Fs14 (by decide +kernel)) mm.2), JALJ_s19, JMKJ_s19⟩
      refine z_store X (lv' := [(6, .int (Int32.ofInt e20)), (5, .int (Int32.ofInt e15)), (0, .ref q1), (1, .ref (A 0)), (2, .ref (A 179)), (3, .ref (A 517)), (4, .int (Int32.ofInt i))]) rfl (by decide) (fun _ h => h) (z_goto X (t := 1894) rfl rfl (w_widen (ce' := ce + 29) (sl' := sl + 222) (by first | exact Nat.le_add_right _ _ | exact Nat.add_le_add_left (by decide) _ | omega) (by first | exact Nat.le_add_right _ _ | exact Nat.add_le_add_left (by decide) _ | omega) ?_))
      exact WS_lv (lv := [(0, .ref q1), (1, .ref (A 0)), (2, .ref (A 179)), (3, .ref (A 517)), (4, .int (Int32.ofInt i))]) (List.forall_mem_cons.mpr ⟨(List.Mem.tail _ (List.Mem.tail _ (List.Mem.head _))), (List.forall_mem_cons.mpr ⟨(List.Mem.tail _ (List.Mem.tail _ (List.Mem.tail _ (List.Mem.head _)))), (List.forall_mem_cons.mpr ⟨(List.Mem.tail _ (List.Mem.tail _ (List.Mem.tail _ (List.Mem.tail _ (List.Mem.head _))))), (List.forall_mem_cons.mpr ⟨(List.Mem.tail _ (List.Mem.tail _ (List.Mem.tail _ (List.Mem.tail _ (List.Mem.tail _ (List.Mem.head _)))))), (List.forall_mem_cons.mpr ⟨(List.Mem.tail _ (List.Mem.tail _ (List.Mem.tail _ (List.Mem.tail _ (List.Mem.tail _ (List.Mem.tail _ (List.Mem.head _))))))), (fun q h => absurd h List.not_mem_nil)⟩)⟩)⟩)⟩)⟩) (hk A _ Is19 JRLx_s19 JFEQ_s19 JRWJ_s19 JFTK_s19 JARJ_s19 jb23 (by first | exact oq_f34933ba ws19_89 ws14_89 p1 b10.1 | omega) (by first | exact oq_d7ce4408 ws19_12 ws14_12 p2 | omega) (by first | exact oq_5bcdc35f ws19_74 ws19_0 ws14_74 ws14_0 p3 | omega) (by first | exact oq_5bcdc35f ws19_90 ws19_9 ws14_90 ws14_9 p4 | omega) (by first | exact oq_5bcdc35f ws19_98 ws19_20 ws14_98 ws14_20 p5 | omega) (by first | exact oq_5bcdc35f ws19_107 ws19_70 ws14_107 ws14_70 p6 | omega))
theorem lc_10 (G : GX l s0 D tys a0 dT) (GR : RS0 s0) (SF : SF0 s0) (GT : TXs0 s0) (GW : TXw0 s0) {k : kx_T} (X : AX k 350 dT) (E : kL k = l ∧ kS0 k = s0 ∧ kD k = D ∧ kR k = room_1) {q1 L : Nat} {xs : Nat → Int32} (S : SX k q1 L xs) (hL : L ≤ 3072) (I : Bd s) (jR : RLx s) (jFEQ : FEQ s) (jRWJ : RWJ s) (jFTK : FTK s) (jARJ : ARJ s) (jPTJ : PTJ s) (p1 : iI s 89 = 1) (p2 : iI s 12 ≤ 8) (p3 : iI s 0 = iI s 74) (p4 : iI s 9 = iI s 90) (p5 : iI s 20 = iI s 98) (p6 : iI s 70 = iI s 107) {i : Int} (hi : 0 ≤ i ∧ i + 6 ≤ (L : Int)) {ce sl : Nat} (hce : ce + 29 ≤ 601024) (hsl : sl + 222 ≤ 7293034) (hk : ∀ (A : Nat → Nat) (t : PS), Bd t → RLx t → FEQ t → RWJ t → FTK t → ARJ t → PTJ t → iI t 89 = 1 → iI t 12 ≤ 8 → iI t 0 = iI t 74 → iI t 9 = iI t 90 → iI t 20 = iI t 98 → iI t 70 = iI t 107 → WS k 1894 [(0, .ref q1), (1, .ref (A 0)), (2, .ref (A 179)), (3, .ref (A 517)), (4, .int (Int32.ofInt i))] [] (Wd A dT t) (ce + 29) (sl + 222)) : WS k 656 [(0, .ref q1), (1, .ref (A 0)), (2, .ref (A 179)), (3, .ref (A 517)), (4, .int (Int32.ofInt i))] [] (Wd A dT s) ce sl := by
  have F : Fm [73] [24, 1460, 229] s s := fm_rf _ _ s
  have b1 := bi_0 I
  have b2 := bi_74 I
  have b3 := bi_9 I
  have b4 := bi_90 I
  have b5 := bi_20 I
  have b6 := bi_98 I
  have b7 := bi_70 I
  have b8 := bi_107 I
  have b9 := bi_12 I
  have b10 := bi_89 I
  refine z_aload_n X (x := A 0) rfl (List.Mem.tail _ (List.Mem.head _)) (z_aload_n X (x := q1) rfl (List.Mem.head _) (z_load X (x := i) rfl (List.Mem.tail _ (List.Mem.tail _ (List.Mem.tail _ (List.Mem.tail _ (List.Mem.head _))))) (z_const X rfl (z_add X rfl (z_sld X S hL rfl (show 0 ≤ (i + 1) ∧ (i + 1) < (L : Int) by first | exact sx_in hi (by decide) | omega) ?_)))))
  have sr11 : rng (sc xs (i + 1)) := sc_rng
  refine z_aload_n X (x := q1) rfl (List.Mem.head _) (z_load X (x := i) rfl (List.Mem.tail _ (List.Mem.tail _ (List.Mem.tail _ (List.Mem.tail _ (List.Mem.head _))))) (z_const X rfl (z_add X rfl (z_sld X S hL rfl (show 0 ≤ (i + 2) ∧ (i + 2) < (L : Int) by first | exact sx_in hi (by decide) | omega) ?_))))
  have sr12 : rng (sc xs (i + 2)) := sc_rng
  refine z_aload_n X (x := A 517) rfl (List.Mem.tail _ (List.Mem.tail _ (List.Mem.tail _ (List.Mem.head _)))) (z_callL X (rm := rmN 322) (As := [.ref (A 0), .int (Int32.ofInt (sc xs (i + 1))), .int (Int32.ofInt (sc xs (i + 2))), .ref (A 517)]) (st := []) rfl (by decide) rfl (by rw [E.1, E.2.1, E.2.2.1]; exact lw_limit2 G I (by omega) (by omega)) ⟨by rw [E.2.2.2]; exact (show 9 + 1 ≤ 2048 by decide), by rw [E.2.2.2]; exact (show 8 + (5 + 11) + 167 ≤ 84000 by decide), by rw [E.2.2.2]; exact (show ce + 2 ≤ 601024 by first | exact rmo_1 hce (by decide) | exact rmo_2 hce (by decide) | omega), by rw [E.2.2.2]; exact (show sl + 12 ≤ 7293034 by first | exact rmo_1 hsl (by decide) | exact rmo_2 hsl (by decide) | omega)⟩ (Nat.le_of_ble_eq_true rfl) (fun vv A s13 hA2 hq => ?_) (fun ee A s13 hA2 hq => ?_))
  rotate_left
  · obtain ⟨Is13, Fs13, e14, hv, hrs13, hps13⟩ := hq; cases hv
  obtain ⟨Is13, Fs13, e14, hv, hrs13, hps13⟩ := hq
  cases hv
  rw [← hA2 0 (by decide)]
  rw [← hA2 179 (by decide)]
  rw [← hA2 517 (by decide)]
  have JRLx_s13 : RLx s13 := RLx_fm Fs13 (by decide) jR
  have JFEQ_s13 : FEQ s13 := FEQ_fm Fs13 (by decide) jFEQ
  have JRWJ_s13 : RWJ s13 := RWJ_fm Fs13 (by decide +kernel) jRWJ
  have JFTK_s13 : FTK s13 := FTK_fm Fs13 (by decide) jFTK
  have JARJ_s13 : ARJ s13 := ARJ_fm Fs13 ⟨by decide +kernel, by decide +kernel, by decide +kernel, by decide +kernel, by decide +kernel, by decide +kernel, by decide +kernel, by decide +kernel⟩ jARJ
  have JPMJ_s13 : PMJ s13 := PMJ_fm Fs13 (by decide +kernel) jPTJ.1
  have JAPJ_s13 : AEQ 21 228 128 s13 := APJ_fm Fs13 (by decide) jPTJ.2.1
  have JMKJ_s13 : MKJ s13 := MKJ_fm Fs13 (by decide +kernel) jPTJ.2.2.2
  have ws13_0 : iI s13 0 = iI s 0 := fm_iq Fs13 rfl
  have ws13_74 : iI s13 74 = iI s 74 := fm_iq Fs13 rfl
  have ws13_9 : iI s13 9 = iI s 9 := fm_iq Fs13 rfl
  have ws13_90 : iI s13 90 = iI s 90 := fm_iq Fs13 rfl
  have ws13_20 : iI s13 20 = iI s 20 := fm_iq Fs13 rfl
  have ws13_98 : iI s13 98 = iI s 98 := fm_iq Fs13 rfl
  have ws13_70 : iI s13 70 = iI s 70 := fm_iq Fs13 rfl
  have ws13_107 : iI s13 107 = iI s 107 := fm_iq Fs13 rfl
  have ws13_12 : iI s13 12 = iI s 12 := fm_iq Fs13 rfl
  have ws13_89 : iI s13 89 = iI s 89 := fm_iq Fs13 rfl
  show WS k 673 [(0, .ref q1), (1, .ref (A 0)), (2, .ref (A 179)), (3, .ref (A 517)), (4, .int (Int32.ofInt i))] [.int (Int32.ofInt e14)] (Wd A dT s13) (ce + 2) (sl + 12)
  refine z_store X (lv' := [(5, .int (Int32.ofInt e14)), (0, .ref q1), (1, .ref (A 0)), (2, .ref (A 179)), (3, .ref (A 517)), (4, .int (Int32.ofInt i))]) rfl (by decide) (fun _ h => h) (z_aload_n X (x := A 179) rfl (List.Mem.tail _ (List.Mem.tail _ (List.Mem.tail _ (List.Mem.head _)))) (z_aload_n X (x := q1) rfl (List.Mem.tail _ (List.Mem.head _)) (z_load X (x := i) rfl (List.Mem.tail _ (List.Mem.tail _ (List.Mem.tail _ (List.Mem.tail _ (List.Mem.tail _ (List.Mem.head _)))))) (z_const X rfl (z_add X rfl (z_sld X S hL rfl (show 0 ≤ (i + 1) ∧ (i + 1) < (L : Int) by first | exact sx_in hi (by decide) | omega) ?_))))))
  have sr15 : rng (sc xs (i + 1)) := sc_rng
  refine z_aload_n X (x := q1) rfl (List.Mem.tail _ (List.Mem.head _)) (z_load X (x := i) rfl (List.Mem.tail _ (List.Mem.tail _ (List.Mem.tail _ (List.Mem.tail _ (List.Mem.tail _ (List.Mem.head _)))))) (z_const X rfl (z_add X rfl (z_sld X S hL rfl (show 0 ≤ (i + 2) ∧ (i + 2) < (L : Int) by first | exact sx_in hi (by decide) | omega) ?_))))
  have sr16 : rng (sc xs (i + 2)) := sc_rng
  refine z_callV X 179 (rm := rmN 236) (As := [.int (Int32.ofInt (sc xs (i + 1))), .int (Int32.ofInt (sc xs (i + 2)))]) (st := []) rfl rfl (by decide) rfl (by rw [E.1, E.2.1, E.2.2.1]; exact k_limit2 G Is13 (by first | exact ⟨sr15.1, sr15.2⟩ | omega) (by first | exact ⟨sr16.1, sr16.2⟩ | omega)) ⟨by rw [E.2.2.2]; exact (show 7 + 1 ≤ 2048 from oq_4e6106eb), by rw [E.2.2.2]; exact (show 8 + (4 + 11) + 122 ≤ 84000 from oq_ebbf79c1), by rw [E.2.2.2]; exact (show (ce + 2) + 0 ≤ 601024 by first | (clear hps13; omega) | omega), by rw [E.2.2.2]; exact (show (sl + 12) + 0 ≤ 7293034 by first | (clear hps13; omega) | omega)⟩ (Nat.le_of_ble_eq_true rfl) (fun vv s17 hq => ?_) (fun ee s17 hq => ?_)
  rotate_left
  · obtain ⟨Is17, Fs17, e18, hv, hrs17, hps17⟩ := hq; cases hv
  obtain ⟨Is17, Fs17, e18, hv, hrs17, hps17⟩ := hq
  cases hv
  have JRLx_s17 : RLx s17 := RLx_fm Fs17 (by decide) JRLx_s13
  have JFEQ_s17 : FEQ s17 := FEQ_fm Fs17 (by decide) JFEQ_s13
  have JRWJ_s17 : RWJ s17 := RWJ_fm Fs17 (by decide +kernel) JRWJ_s13
  have JFTK_s17 : FTK s17 := FTK_fm Fs17 (by decide) JFTK_s13
  have JARJ_s17 : ARJ s17 := ARJ_fm Fs17 ⟨by decide +kernel, by decide +kernel, by decide +kernel, by decide +kernel, by decide +kernel, by decide +kernel, by decide +kernel, by decide +kernel⟩ JARJ_s13
  have JPMJ_s17 : PMJ s17 := PMJ_fm Fs17 (by decide +kernel) JPMJ_s13
  have JAPJ_s17 : AEQ 21 228 128 s17 := APJ_fm Fs17 (by decide) JAPJ_s13
  have JMKJ_s17 : MKJ s17 := MKJ_fm Fs17 (by decide +kernel) JMKJ_s13
  have ws17_0 : iI s17 0 = iI s13 0 := fm_iq Fs17 rfl
  have ws17_74 : iI s17 74 = iI s13 74 := fm_iq Fs17 rfl
  have ws17_9 : iI s17 9 = iI s13 9 := fm_iq Fs17 rfl
  have ws17_90 : iI s17 90 = iI s13 90 := fm_iq Fs17 rfl
  have ws17_20 : iI s17 20 = iI s13 20 := fm_iq Fs17 rfl
  have ws17_98 : iI s17 98 = iI s13 98 := fm_iq Fs17 rfl
  have ws17_70 : iI s17 70 = iI s13 70 := fm_iq Fs17 rfl
  have ws17_107 : iI s17 107 = iI s13 107 := fm_iq Fs17 rfl
  have ws17_12 : iI s17 12 = iI s13 12 := fm_iq Fs17 rfl
  have ws17_89 : iI s17 89 = iI s13 89 := fm_iq Fs17 rfl
  have wos17 : iO s17 = iO s13 := fm_o Fs17 (by decide)
  show WS k 691 [(5, .int (Int32.ofInt e14)), (0, .ref q1), (1, .ref (A 0)), (2, .ref (A 179)), (3, .ref (A 517)), (4, .int (Int32.ofInt i))] [.int (Int32.ofInt e18)] (Wd A dT s17) (ce + 2) (sl + 12)
  rcases hps13 with cc | cc
  ·
    rcases hps17 with mm | mm
    ·
      have jb19 : PTJ s17 := ⟨JPMJ_s17, JAPJ_s17, aeq_upd jPTJ.2.2.1 cc.2.2.2.2.2.2 (sam_fm Fs13 (by decide +kernel)) mm.2.2.2.2.2.2 (sam_fm Fs17 (by decide +kernel)), JMKJ_s17⟩
      refine z_store X (lv' := [(6, .int (Int32.ofInt e18)), (5, .int (Int32.ofInt e14)), (0, .ref q1), (1, .ref (A 0)), (2, .ref (A 179)), (3, .ref (A 517)), (4, .int (Int32.ofInt i))]) rfl (by decide) (fun _ h => h) (z_goto X (t := 1894) rfl rfl (w_widen (ce' := ce + 29) (sl' := sl + 222) (by first | exact Nat.le_add_right _ _ | exact Nat.add_le_add_left (by decide) _ | omega) (by first | exact Nat.le_add_right _ _ | exact Nat.add_le_add_left (by decide) _ | omega) ?_))
      exact WS_lv (lv := [(0, .ref q1), (1, .ref (A 0)), (2, .ref (A 179)), (3, .ref (A 517)), (4, .int (Int32.ofInt i))]) (List.forall_mem_cons.mpr ⟨(List.Mem.tail _ (List.Mem.tail _ (List.Mem.head _))), (List.forall_mem_cons.mpr ⟨(List.Mem.tail _ (List.Mem.tail _ (List.Mem.tail _ (List.Mem.head _)))), (List.forall_mem_cons.mpr ⟨(List.Mem.tail _ (List.Mem.tail _ (List.Mem.tail _ (List.Mem.tail _ (List.Mem.head _))))), (List.forall_mem_cons.mpr ⟨(List.Mem.tail _ (List.Mem.tail _ (List.Mem.tail _ (List.Mem.tail _ (List.Mem.tail _ (List.Mem.head _)))))), (List.forall_mem_cons.mpr ⟨(List.Mem.tail _ (List.Mem.tail _ (List.Mem.tail _ (List.Mem.tail _ (List.Mem.tail _ (List.Mem.tail _ (List.Mem.head _))))))), (fun q h => absurd h List.not_mem_nil)⟩)⟩)⟩)⟩)⟩) (hk A _ Is17 JRLx_s17 JFEQ_s17 JRWJ_s17 JFTK_s17 JARJ_s17 jb19 (by first | exact oq_f34933ba ws17_89 ws13_89 p1 b10.1 | omega) (by first | exact oq_d7ce4408 ws17_12 ws13_12 p2 | omega) (by first | exact oq_5bcdc35f ws17_74 ws17_0 ws13_74 ws13_0 p3 | omega) (by first | exact oq_5bcdc35f ws17_90 ws17_9 ws13_90 ws13_9 p4 | omega) (by first | exact oq_5bcdc35f ws17_98 ws17_20 ws13_98 ws13_20 p5 | omega) (by first | exact oq_5bcdc35f ws17_107 ws17_70 ws13_107 ws13_70 p6 | omega))
    ·
      exfalso
      omega
  ·
    rcases hps17 with mm | mm
    ·
      exfalso
      omega
    ·
      have jb20 : PTJ s17 := ⟨JPMJ_s17, JAPJ_s17, aeq_sam jPTJ.2.2.1 (sam_ts cc.2.2 (sam_fm Fs17 (by decide +kernel))) (sam_ts (sam_fm Fs13 (by decide +kernel)) mm.2.2), JMKJ_s17⟩
      refine z_store X (lv' := [(6, .int (Int32.ofInt e18)), (5, .int (Int32.ofInt e14)), (0, .ref q1), (1, .ref (A 0)), (2, .ref (A 179)), (3, .ref (A 517)), (4, .int (Int32.ofInt i))]) rfl (by decide) (fun _ h => h) (z_goto X (t := 1894) rfl rfl (w_widen (ce' := ce + 29) (sl' := sl + 222) (by first | exact Nat.le_add_right _ _ | exact Nat.add_le_add_left (by decide) _ | omega) (by first | exact Nat.le_add_right _ _ | exact Nat.add_le_add_left (by decide) _ | omega) ?_))
      exact WS_lv (lv := [(0, .ref q1), (1, .ref (A 0)), (2, .ref (A 179)), (3, .ref (A 517)), (4, .int (Int32.ofInt i))]) (List.forall_mem_cons.mpr ⟨(List.Mem.tail _ (List.Mem.tail _ (List.Mem.head _))), (List.forall_mem_cons.mpr ⟨(List.Mem.tail _ (List.Mem.tail _ (List.Mem.tail _ (List.Mem.head _)))), (List.forall_mem_cons.mpr ⟨(List.Mem.tail _ (List.Mem.tail _ (List.Mem.tail _ (List.Mem.tail _ (List.Mem.head _))))), (List.forall_mem_cons.mpr ⟨(List.Mem.tail _ (List.Mem.tail _ (List.Mem.tail _ (List.Mem.tail _ (List.Mem.tail _ (List.Mem.head _)))))), (List.forall_mem_cons.mpr ⟨(List.Mem.tail _ (List.Mem.tail _ (List.Mem.tail _ (List.Mem.tail _ (List.Mem.tail _ (List.Mem.tail _ (List.Mem.head _))))))), (fun q h => absurd h List.not_mem_nil)⟩)⟩)⟩)⟩)⟩) (hk A _ Is17 JRLx_s17 JFEQ_s17 JRWJ_s17 JFTK_s17 JARJ_s17 jb20 (by first | exact oq_f34933ba ws17_89 ws13_89 p1 b10.1 | omega) (by first | exact oq_d7ce4408 ws17_12 ws13_12 p2 | omega) (by first | exact oq_5bcdc35f ws17_74 ws17_0 ws13_74 ws13_0 p3 | omega) (by first | exact oq_5bcdc35f ws17_90 ws17_9 ws13_90 ws13_9 p4 | omega) (by first | exact oq_5bcdc35f ws17_98 ws17_20 ws13_98 ws13_20 p5 | omega) (by first | exact oq_5bcdc35f ws17_107 ws17_70 ws13_107 ws13_70 p6 | omega))
theorem lc_11 (G : GX l s0 D tys a0 dT) (GR : RS0 s0) (SF : SF0 s0) (GT : TXs0 s0) (GW : TXw0 s0) {k : kx_T} (X : AX k 350 dT) (E : kL k = l ∧ kS0 k = s0 ∧ kD k = D ∧ kR k = room_1) {q1 L : Nat} {xs : Nat → Int32} (S : SX k q1 L xs) (hL : L ≤ 3072) (I : Bd s) (jR : RLx s) (jFEQ : FEQ s) (jRWJ : RWJ s) (jFTK : FTK s) (jARJ : ARJ s) (jPTJ : PTJ s) (p1 : iI s 89 = 1) (p2 : iI s 12 ≤ 8) (p3 : iI s 0 = iI s 74) (p4 : iI s 9 = iI s 90) (p5 : iI s 20 = iI s 98) (p6 : iI s 70 = iI s 107) {i : Int} (hi : 0 ≤ i ∧ i + 6 ≤ (L : Int)) {ce sl : Nat} (hce : ce + 29 ≤ 601024) (hsl : sl + 222 ≤ 7293034) (hk : ∀ (A : Nat → Nat) (t : PS), Bd t → RLx t → FEQ t → RWJ t → FTK t → ARJ t → PTJ t → iI t 89 = 1 → iI t 12 ≤ 8 → iI t 0 = iI t 74 → iI t 9 = iI t 90 → iI t 20 = iI t 98 → iI t 70 = iI t 107 → WS k 1894 [(0, .ref q1), (1, .ref (A 0)), (2, .ref (A 179)), (3, .ref (A 517)), (4, .int (Int32.ofInt i))] [] (Wd A dT t) (ce + 29) (sl + 222)) : WS k 696 [(0, .ref q1), (1, .ref (A 0)), (2, .ref (A 179)), (3, .ref (A 517)), (4, .int (Int32.ofInt i))] [] (Wd A dT s) ce sl := by
  have F : Fm [22, 23, 73, 77, 75, 78, 79, 80, 81] [33, 26, 27, 28, 29, 30, 31, 32, 20, 1460, 161, 202, 203, 204, 205, 206, 207, 208, 209, 210, 211, 212, 213, 214, 215, 216, 217, 218, 219, 220, 221, 222, 223, 224, 225, 226, 227, 230] s s := fm_rf _ _ s
  have b1 := bi_0 I
  have b2 := bi_74 I
  have b3 := bi_9 I
  have b4 := bi_90 I
  have b5 := bi_20 I
  have b6 := bi_98 I
  have b7 := bi_70 I
  have b8 := bi_107 I
  have b9 := bi_12 I
  have b10 := bi_89 I
  refine z_aload_n X (x := A 0) rfl (List.Mem.tail _ (List.Mem.head _)) (z_aload_n X (x := q1) rfl (List.Mem.head _) (z_load X (x := i) rfl (List.Mem.tail _ (List.Mem.tail _ (List.Mem.tail _ (List.Mem.tail _ (List.Mem.head _))))) (z_const X rfl (z_add X rfl (z_sld X S hL rfl (show 0 ≤ (i + 1) ∧ (i + 1) < (L : Int) by first | exact sx_in hi (by decide) | omega) ?_)))))
  have sr11 : rng (sc xs (i + 1)) := sc_rng
  refine z_aload_n X (x := q1) rfl (List.Mem.head _) (z_load X (x := i) rfl (List.Mem.tail _ (List.Mem.tail _ (List.Mem.tail _ (List.Mem.tail _ (List.Mem.head _))))) (z_const X rfl (z_add X rfl (z_sld X S hL rfl (show 0 ≤ (i + 2) ∧ (i + 2) < (L : Int) by first | exact sx_in hi (by decide) | omega) ?_))))
  have sr12 : rng (sc xs (i + 2)) := sc_rng
  refine z_aload_n X (x := q1) rfl (List.Mem.head _) (z_load X (x := i) rfl (List.Mem.tail _ (List.Mem.tail _ (List.Mem.tail _ (List.Mem.tail _ (List.Mem.head _))))) (z_const X rfl (z_add X rfl (z_sld X S hL rfl (show 0 ≤ (i + 3) ∧ (i + 3) < (L : Int) by first | exact sx_in hi (by decide) | omega) ?_))))
  have sr13 : rng (sc xs (i + 3)) := sc_rng
  refine z_aload_n X (x := A 517) rfl (List.Mem.tail _ (List.Mem.tail _ (List.Mem.tail _ (List.Mem.head _)))) ?_
  obtain ⟨U, hU1, hU2, hU3⟩ := air_U jARJ.2.2.2.2.2.1 jARJ.1 jARJ.2.1 jARJ.2.2.1 jARJ.2.2.2.2.1 jARJ.2.2.2.2.2.2.2 (by omega) (by omega)
  refine z_callL X (rm := rmN 323) (As := [.ref (A 0), .int (Int32.ofInt (sc xs (i + 1))), .int (Int32.ofInt (sc xs (i + 2))), .int (Int32.ofInt (sc xs (i + 3))), .ref (A 517)]) (st := []) rfl (by decide) rfl (by rw [E.1, E.2.1, E.2.2.1]; exact lw_hears6 G I jARJ.2.2.2.2.2.1 jARJ.2.2.2.2.2.2.1 hU1 jPTJ.1 (by omega) (by omega) (by omega)) ⟨by rw [E.2.2.2]; exact (show 11 + 1 ≤ 2048 by decide), by rw [E.2.2.2]; exact (show 8 + (6 + 11) + 229 ≤ 84000 by decide), by rw [E.2.2.2]; exact (show ce + 3 ≤ 601024 by first | exact rmo_1 hce (by decide) | exact rmo_2 hce (by decide) | omega), by rw [E.2.2.2]; exact (show sl + 18 ≤ 7293034 by first | exact rmo_1 hsl (by decide) | exact rmo_2 hsl (by decide) | omega)⟩ (Nat.le_of_ble_eq_true rfl) (fun vv A s14 hA2 hq => ?_) (fun ee A s14 hA2 hq => ?_)
  rotate_left
  · obtain ⟨Is14, Fs14, e15, hv, hrs14, hps14⟩ := hq; cases hv
  obtain ⟨Is14, Fs14, e15, hv, hrs14, hps14⟩ := hq
  cases hv
  rw [← hA2 0 (by decide)]
  rw [← hA2 179 (by decide)]
  rw [← hA2 517 (by decide)]
  have JRLx_s14 : RLx s14 := RLx_fm Fs14 (by decide) jR
  have JFEQ_s14 : FEQ s14 := FEQ_fm Fs14 (by decide) jFEQ
  have JRWJ_s14 : RWJ s14 := RWJ_fm Fs14 (by decide +kernel) jRWJ
  have JFTK_s14 : FTK s14 := FTK_fm Fs14 (by decide) jFTK
  have JARJ_s14 : ARJ s14 := ARJ_fm Fs14 ⟨by decide +kernel, by decide +kernel, by decide +kernel, by decide +kernel, by decide +kernel, by decide +kernel, by decide +kernel, by decide +kernel⟩ jARJ
  have JPTJ_s14 : PTJ s14 := PTJ_fm Fs14 (by decide +kernel) jPTJ
  have JMDJ_s14 : MDJ U s14 := MDJ_fm Fs14 (by decide +kernel) hU2
  have ws14_0 : iI s14 0 = iI s 0 := fm_iq Fs14 rfl
  have ws14_74 : iI s14 74 = iI s 74 := fm_iq Fs14 rfl
  have ws14_9 : iI s14 9 = iI s 9 := fm_iq Fs14 rfl
  have ws14_90 : iI s14 90 = iI s 90 := fm_iq Fs14 rfl
  have ws14_20 : iI s14 20 = iI s 20 := fm_iq Fs14 rfl
  have ws14_98 : iI s14 98 = iI s 98 := fm_iq Fs14 rfl
  have ws14_70 : iI s14 70 = iI s 70 := fm_iq Fs14 rfl
  have ws14_107 : iI s14 107 = iI s 107 := fm_iq Fs14 rfl
  have ws14_12 : iI s14 12 = iI s 12 := fm_iq Fs14 rfl
  have ws14_89 : iI s14 89 = iI s 89 := fm_iq Fs14 rfl
  show WS k 719 [(0, .ref q1), (1, .ref (A 0)), (2, .ref (A 179)), (3, .ref (A 517)), (4, .int (Int32.ofInt i))] [.int (Int32.ofInt e15)] (Wd A dT s14) (ce + 3) (sl + 18)
  refine z_store X (lv' := [(5, .int (Int32.ofInt e15)), (0, .ref q1), (1, .ref (A 0)), (2, .ref (A 179)), (3, .ref (A 517)), (4, .int (Int32.ofInt i))]) rfl (by decide) (fun _ h => h) (z_aload_n X (x := A 179) rfl (List.Mem.tail _ (List.Mem.tail _ (List.Mem.tail _ (List.Mem.head _)))) (z_aload_n X (x := q1) rfl (List.Mem.tail _ (List.Mem.head _)) (z_load X (x := i) rfl (List.Mem.tail _ (List.Mem.tail _ (List.Mem.tail _ (List.Mem.tail _ (List.Mem.tail _ (List.Mem.head _)))))) (z_const X rfl (z_add X rfl (z_sld X S hL rfl (show 0 ≤ (i + 1) ∧ (i + 1) < (L : Int) by first | exact sx_in hi (by decide) | omega) ?_))))))
  have sr16 : rng (sc xs (i + 1)) := sc_rng
  refine z_aload_n X (x := q1) rfl (List.Mem.tail _ (List.Mem.head _)) (z_load X (x := i) rfl (List.Mem.tail _ (List.Mem.tail _ (List.Mem.tail _ (List.Mem.tail _ (List.Mem.tail _ (List.Mem.head _)))))) (z_const X rfl (z_add X rfl (z_sld X S hL rfl (show 0 ≤ (i + 2) ∧ (i + 2) < (L : Int) by first | exact sx_in hi (by decide) | omega) ?_))))
  have sr17 : rng (sc xs (i + 2)) := sc_rng
  refine z_aload_n X (x := q1) rfl (List.Mem.tail _ (List.Mem.head _)) (z_load X (x := i) rfl (List.Mem.tail _ (List.Mem.tail _ (List.Mem.tail _ (List.Mem.tail _ (List.Mem.tail _ (List.Mem.head _)))))) (z_const X rfl (z_add X rfl (z_sld X S hL rfl (show 0 ≤ (i + 3) ∧ (i + 3) < (L : Int) by first | exact sx_in hi (by decide) | omega) ?_))))
  have sr18 : rng (sc xs (i + 3)) := sc_rng
  refine z_callV X 179 (rm := rmN 237) (As := [.int (Int32.ofInt (sc xs (i + 1))), .int (Int32.ofInt (sc xs (i + 2))), .int (Int32.ofInt (sc xs (i + 3)))]) (st := []) rfl rfl (by decide) rfl (by rw [E.1, E.2.1, E.2.2.1]; exact k_hears6 G Is14 JRLx_s14 JMDJ_s14 (by first | exact ⟨sr16.1, sr16.2⟩ | omega) (by first | exact ⟨sr17.1, sr17.2⟩ | omega) (by first | exact ⟨sr18.1, sr18.2⟩ | omega) (by first | exact oq_b44a1c7f ws14_89 p1 b10.1 | omega)) ⟨by rw [E.2.2.2]; exact (show 37 + 1 ≤ 2048 from oq_2596b3cb), by rw [E.2.2.2]; exact (show 8 + (5 + 11) + 1578 ≤ 84000 from oq_93887b04), by rw [E.2.2.2]; exact (show (ce + 3) + 0 ≤ 601024 by first | (clear hps14; omega) | omega), by rw [E.2.2.2]; exact (show (sl + 18) + 0 ≤ 7293034 by first | (clear hps14; omega) | omega)⟩ (Nat.le_of_ble_eq_true rfl) (fun vv s19 hq => ?_) (fun ee s19 hq => ?_)
  rotate_left
  · obtain ⟨Is19, Fs19, JRLx_s19, e20, hv, hrs19, hps19⟩ := hq; cases hv
  obtain ⟨Is19, Fs19, JRLx_s19, e20, hv, hrs19, hps19⟩ := hq
  cases hv
  have JRLx_s19 : RLx s19 := RLx_fm Fs19 (by decide) JRLx_s14
  have JFEQ_s19 : FEQ s19 := FEQ_fm Fs19 (by decide) JFEQ_s14
  have JRWJ_s19 : RWJ s19 := RWJ_fm Fs19 (by decide +kernel) JRWJ_s14
  have JFTK_s19 : FTK s19 := FTK_fm Fs19 (by decide) JFTK_s14
  have JARJ_s19 : ARJ s19 := ARJ_fm Fs19 ⟨by decide +kernel, by decide +kernel, by decide +kernel, by decide +kernel, by decide +kernel, by decide +kernel, by decide +kernel, by decide +kernel⟩ JARJ_s14
  have JPTJ_s19 : PTJ s19 := PTJ_fm Fs19 (by decide +kernel) JPTJ_s14
  have ws19_0 : iI s19 0 = iI s14 0 := fm_iq Fs19 rfl
  have ws19_74 : iI s19 74 = iI s14 74 := fm_iq Fs19 rfl
  have ws19_9 : iI s19 9 = iI s14 9 := fm_iq Fs19 rfl
  have ws19_90 : iI s19 90 = iI s14 90 := fm_iq Fs19 rfl
  have ws19_20 : iI s19 20 = iI s14 20 := fm_iq Fs19 rfl
  have ws19_98 : iI s19 98 = iI s14 98 := fm_iq Fs19 rfl
  have ws19_70 : iI s19 70 = iI s14 70 := fm_iq Fs19 rfl
  have ws19_107 : iI s19 107 = iI s14 107 := fm_iq Fs19 rfl
  have ws19_12 : iI s19 12 = iI s14 12 := fm_iq Fs19 rfl
  have ws19_89 : iI s19 89 = iI s14 89 := fm_iq Fs19 rfl
  have wos19 : iO s19 = iO s14 := fm_o Fs19 (by decide)
  show WS k 743 [(5, .int (Int32.ofInt e15)), (0, .ref q1), (1, .ref (A 0)), (2, .ref (A 179)), (3, .ref (A 517)), (4, .int (Int32.ofInt i))] [.int (Int32.ofInt e20)] (Wd A dT s19) (ce + 3) (sl + 18)
  rcases hps14 with cc | cc
  ·
    rcases hps19 with mm | mm
    ·
      have rq21 := hre_eq (fun j hj => (jPTJ.2.1 j hj).trans ((sam_fm Fs14 (by decide +kernel) : SAM 228 _ _) j).symm) cc.2.2.2.2 mm.2.2.2.2
      refine z_store X (lv' := [(6, .int (Int32.ofInt e20)), (5, .int (Int32.ofInt e15)), (0, .ref q1), (1, .ref (A 0)), (2, .ref (A 179)), (3, .ref (A 517)), (4, .int (Int32.ofInt i))]) rfl (by decide) (fun _ h => h) (z_goto X (t := 1894) rfl rfl (w_widen (ce' := ce + 29) (sl' := sl + 222) (by first | exact Nat.le_add_right _ _ | exact Nat.add_le_add_left (by decide) _ | omega) (by first | exact Nat.le_add_right _ _ | exact Nat.add_le_add_left (by decide) _ | omega) ?_))
      exact WS_lv (lv := [(0, .ref q1), (1, .ref (A 0)), (2, .ref (A 179)), (3, .ref (A 517)), (4, .int (Int32.ofInt i))]) (List.forall_mem_cons.mpr ⟨(List.Mem.tail _ (List.Mem.tail _ (List.Mem.head _))), (List.forall_mem_cons.mpr ⟨(List.Mem.tail _ (List.Mem.tail _ (List.Mem.tail _ (List.Mem.head _)))), (List.forall_mem_cons.mpr ⟨(List.Mem.tail _ (List.Mem.tail _ (List.Mem.tail _ (List.Mem.tail _ (List.Mem.head _))))), (List.forall_mem_cons.mpr ⟨(List.Mem.tail _ (List.Mem.tail _ (List.Mem.tail _ (List.Mem.tail _ (List.Mem.tail _ (List.Mem.head _)))))), (List.forall_mem_cons.mpr ⟨(List.Mem.tail _ (List.Mem.tail _ (List.Mem.tail _ (List.Mem.tail _ (List.Mem.tail _ (List.Mem.tail _ (List.Mem.head _))))))), (fun q h => absurd h List.not_mem_nil)⟩)⟩)⟩)⟩)⟩) (hk A _ Is19 JRLx_s19 JFEQ_s19 JRWJ_s19 JFTK_s19 JARJ_s19 JPTJ_s19 (by first | exact oq_f34933ba ws19_89 ws14_89 p1 b10.1 | omega) (by first | exact oq_d7ce4408 ws19_12 ws14_12 p2 | omega) (by first | exact oq_5bcdc35f ws19_74 ws19_0 ws14_74 ws14_0 p3 | omega) (by first | exact oq_5bcdc35f ws19_90 ws19_9 ws14_90 ws14_9 p4 | omega) (by first | exact oq_5bcdc35f ws19_98 ws19_20 ws14_98 ws14_20 p5 | omega) (by first | exact oq_5bcdc35f ws19_107 ws19_70 ws14_107 ws14_70 p6 | omega))
    ·
      exfalso
      omega
  ·
    rcases hps19 with mm | mm
    ·
      exfalso
      omega
    ·
      refine z_store X (lv' := [(6, .int (Int32.ofInt e20)), (5, .int (Int32.ofInt e15)), (0, .ref q1), (1, .ref (A 0)), (2, .ref (A 179)), (3, .ref (A 517)), (4, .int (Int32.ofInt i))]) rfl (by decide) (fun _ h => h) (z_goto X (t := 1894) rfl rfl (w_widen (ce' := ce + 29) (sl' := sl + 222) (by first | exact Nat.le_add_right _ _ | exact Nat.add_le_add_left (by decide) _ | omega) (by first | exact Nat.le_add_right _ _ | exact Nat.add_le_add_left (by decide) _ | omega) ?_))
      exact WS_lv (lv := [(0, .ref q1), (1, .ref (A 0)), (2, .ref (A 179)), (3, .ref (A 517)), (4, .int (Int32.ofInt i))]) (List.forall_mem_cons.mpr ⟨(List.Mem.tail _ (List.Mem.tail _ (List.Mem.head _))), (List.forall_mem_cons.mpr ⟨(List.Mem.tail _ (List.Mem.tail _ (List.Mem.tail _ (List.Mem.head _)))), (List.forall_mem_cons.mpr ⟨(List.Mem.tail _ (List.Mem.tail _ (List.Mem.tail _ (List.Mem.tail _ (List.Mem.head _))))), (List.forall_mem_cons.mpr ⟨(List.Mem.tail _ (List.Mem.tail _ (List.Mem.tail _ (List.Mem.tail _ (List.Mem.tail _ (List.Mem.head _)))))), (List.forall_mem_cons.mpr ⟨(List.Mem.tail _ (List.Mem.tail _ (List.Mem.tail _ (List.Mem.tail _ (List.Mem.tail _ (List.Mem.tail _ (List.Mem.head _))))))), (fun q h => absurd h List.not_mem_nil)⟩)⟩)⟩)⟩)⟩) (hk A _ Is19 JRLx_s19 JFEQ_s19 JRWJ_s19 JFTK_s19 JARJ_s19 JPTJ_s19 (by first | exact oq_f34933ba ws19_89 ws14_89 p1 b10.1 | omega) (by first | exact oq_d7ce4408 ws19_12 ws14_12 p2 | omega) (by first | exact oq_5bcdc35f ws19_74 ws19_0 ws14_74 ws14_0 p3 | omega) (by first | exact oq_5bcdc35f ws19_90 ws19_9 ws14_90 ws14_9 p4 | omega) (by first | exact oq_5bcdc35f ws19_98 ws19_20 ws14_98 ws14_20 p5 | omega) (by first | exact oq_5bcdc35f ws19_107 ws19_70 ws14_107 ws14_70 p6 | omega))
theorem lc_12 (G : GX l s0 D tys a0 dT) (GR : RS0 s0) (SF : SF0 s0) (GT : TXs0 s0) (GW : TXw0 s0) {k : kx_T} (X : AX k 350 dT) (E : kL k = l ∧ kS0 k = s0 ∧ kD k = D ∧ kR k = room_1) {q1 L : Nat} {xs : Nat → Int32} (S : SX k q1 L xs) (hL : L ≤ 3072) (I : Bd s) (jR : RLx s) (jFEQ : FEQ s) (jRWJ : RWJ s) (jFTK : FTK s) (jARJ : ARJ s) (jPTJ : PTJ s) (p1 : iI s 89 = 1) (p2 : iI s 12 ≤ 8) (p3 : iI s 0 = iI s 74) (p4 : iI s 9 = iI s 90) (p5 : iI s 20 = iI s 98) (p6 : iI s 70 = iI s 107) {i : Int} (hi : 0 ≤ i ∧ i + 6 ≤ (L : Int)) {ce sl : Nat} (hce : ce + 29 ≤ 601024) (hsl : sl + 222 ≤ 7293034) (hk : ∀ (A : Nat → Nat) (t : PS), Bd t → RLx t → FEQ t → RWJ t → FTK t → ARJ t → PTJ t → iI t 89 = 1 → iI t 12 ≤ 8 → iI t 0 = iI t 74 → iI t 9 = iI t 90 → iI t 20 = iI t 98 → iI t 70 = iI t 107 → WS k 1894 [(0, .ref q1), (1, .ref (A 0)), (2, .ref (A 179)), (3, .ref (A 517)), (4, .int (Int32.ofInt i))] [] (Wd A dT t) (ce + 29) (sl + 222)) : WS k 748 [(0, .ref q1), (1, .ref (A 0)), (2, .ref (A 179)), (3, .ref (A 517)), (4, .int (Int32.ofInt i))] [] (Wd A dT s) ce sl := by
  have F : Fm [22, 23, 24, 73, 77, 75, 78, 79, 80, 81] [33, 26, 27, 28, 29, 30, 31, 32, 20, 1460, 161, 202, 203, 204, 205, 206, 207, 208, 209, 210, 211, 212, 213, 214, 215, 216, 217, 218, 219, 220, 221, 222, 223, 224, 225, 226, 227, 230] s s := fm_rf _ _ s
  have b1 := bi_0 I
  have b2 := bi_74 I
  have b3 := bi_9 I
  have b4 := bi_90 I
  have b5 := bi_20 I
  have b6 := bi_98 I
  have b7 := bi_70 I
  have b8 := bi_107 I
  have b9 := bi_12 I
  have b10 := bi_89 I
  refine z_aload_n X (x := A 0) rfl (List.Mem.tail _ (List.Mem.head _)) (z_aload_n X (x := q1) rfl (List.Mem.head _) (z_load X (x := i) rfl (List.Mem.tail _ (List.Mem.tail _ (List.Mem.tail _ (List.Mem.tail _ (List.Mem.head _))))) (z_const X rfl (z_add X rfl (z_sld X S hL rfl (show 0 ≤ (i + 1) ∧ (i + 1) < (L : Int) by first | exact sx_in hi (by decide) | omega) ?_)))))
  have sr11 : rng (sc xs (i + 1)) := sc_rng
  refine z_aload_n X (x := q1) rfl (List.Mem.head _) (z_load X (x := i) rfl (List.Mem.tail _ (List.Mem.tail _ (List.Mem.tail _ (List.Mem.tail _ (List.Mem.head _))))) (z_const X rfl (z_add X rfl (z_sld X S hL rfl (show 0 ≤ (i + 2) ∧ (i + 2) < (L : Int) by first | exact sx_in hi (by decide) | omega) ?_))))
  have sr12 : rng (sc xs (i + 2)) := sc_rng
  refine z_aload_n X (x := A 517) rfl (List.Mem.tail _ (List.Mem.tail _ (List.Mem.tail _ (List.Mem.head _)))) ?_
  obtain ⟨U, hU1, hU2, hU3⟩ := air_U jARJ.2.2.2.2.2.1 jARJ.1 jARJ.2.1 jARJ.2.2.1 jARJ.2.2.2.2.1 jARJ.2.2.2.2.2.2.2 (by omega) (by omega)
  refine z_callL X (rm := rmN 324) (As := [.ref (A 0), .int (Int32.ofInt (sc xs (i + 1))), .int (Int32.ofInt (sc xs (i + 2))), .ref (A 517)]) (st := []) rfl (by decide) rfl (by rw [E.1, E.2.1, E.2.2.1]; exact lw_peak6 G I jARJ.2.2.2.2.2.1 jARJ.2.2.2.2.2.2.1 hU1 jPTJ.1 (by omega) (by omega)) ⟨by rw [E.2.2.2]; exact (show 11 + 1 ≤ 2048 by decide), by rw [E.2.2.2]; exact (show 8 + (5 + 11) + 228 ≤ 84000 by decide), by rw [E.2.2.2]; exact (show ce + 2 ≤ 601024 by first | exact rmo_1 hce (by decide) | exact rmo_2 hce (by decide) | omega), by rw [E.2.2.2]; exact (show sl + 12 ≤ 7293034 by first | exact rmo_1 hsl (by decide) | exact rmo_2 hsl (by decide) | omega)⟩ (Nat.le_of_ble_eq_true rfl) (fun vv A s13 hA2 hq => ?_) (fun ee A s13 hA2 hq => ?_)
  rotate_left
  · obtain ⟨Is13, Fs13, e14, hv, hrs13, hps13⟩ := hq; cases hv
  obtain ⟨Is13, Fs13, e14, hv, hrs13, hps13⟩ := hq
  cases hv
  rw [← hA2 0 (by decide)]
  rw [← hA2 179 (by decide)]
  rw [← hA2 517 (by decide)]
  have JRLx_s13 : RLx s13 := RLx_fm Fs13 (by decide) jR
  have JFEQ_s13 : FEQ s13 := FEQ_fm Fs13 (by decide) jFEQ
  have JRWJ_s13 : RWJ s13 := RWJ_fm Fs13 (by decide +kernel) jRWJ
  have JFTK_s13 : FTK s13 := FTK_fm Fs13 (by decide) jFTK
  have JARJ_s13 : ARJ s13 := ARJ_fm Fs13 ⟨by decide +kernel, by decide +kernel, by decide +kernel, by decide +kernel, by decide +kernel, by decide +kernel, by decide +kernel, by decide +kernel⟩ jARJ
  have JPTJ_s13 : PTJ s13 := PTJ_fm Fs13 (by decide +kernel) jPTJ
  have JMDJ_s13 : MDJ U s13 := MDJ_fm Fs13 (by decide +kernel) hU2
  have ws13_0 : iI s13 0 = iI s 0 := fm_iq Fs13 rfl
  have ws13_74 : iI s13 74 = iI s 74 := fm_iq Fs13 rfl
  have ws13_9 : iI s13 9 = iI s 9 := fm_iq Fs13 rfl
  have ws13_90 : iI s13 90 = iI s 90 := fm_iq Fs13 rfl
  have ws13_20 : iI s13 20 = iI s 20 := fm_iq Fs13 rfl
  have ws13_98 : iI s13 98 = iI s 98 := fm_iq Fs13 rfl
  have ws13_70 : iI s13 70 = iI s 70 := fm_iq Fs13 rfl
  have ws13_107 : iI s13 107 = iI s 107 := fm_iq Fs13 rfl
  have ws13_12 : iI s13 12 = iI s 12 := fm_iq Fs13 rfl
  have ws13_89 : iI s13 89 = iI s 89 := fm_iq Fs13 rfl
  show WS k 765 [(0, .ref q1), (1, .ref (A 0)), (2, .ref (A 179)), (3, .ref (A 517)), (4, .int (Int32.ofInt i))] [.int (Int32.ofInt e14)] (Wd A dT s13) (ce + 2) (sl + 12)
  refine z_store X (lv' := [(5, .int (Int32.ofInt e14)), (0, .ref q1), (1, .ref (A 0)), (2, .ref (A 179)), (3, .ref (A 517)), (4, .int (Int32.ofInt i))]) rfl (by decide) (fun _ h => h) (z_aload_n X (x := A 179) rfl (List.Mem.tail _ (List.Mem.tail _ (List.Mem.tail _ (List.Mem.head _)))) (z_aload_n X (x := q1) rfl (List.Mem.tail _ (List.Mem.head _)) (z_load X (x := i) rfl (List.Mem.tail _ (List.Mem.tail _ (List.Mem.tail _ (List.Mem.tail _ (List.Mem.tail _ (List.Mem.head _)))))) (z_const X rfl (z_add X rfl (z_sld X S hL rfl (show 0 ≤ (i + 1) ∧ (i + 1) < (L : Int) by first | exact sx_in hi (by decide) | omega) ?_))))))
  have sr15 : rng (sc xs (i + 1)) := sc_rng
  refine z_aload_n X (x := q1) rfl (List.Mem.tail _ (List.Mem.head _)) (z_load X (x := i) rfl (List.Mem.tail _ (List.Mem.tail _ (List.Mem.tail _ (List.Mem.tail _ (List.Mem.tail _ (List.Mem.head _)))))) (z_const X rfl (z_add X rfl (z_sld X S hL rfl (show 0 ≤ (i + 2) ∧ (i + 2) < (L : Int) by first | exact sx_in hi (by decide) | omega) ?_))))
  have sr16 : rng (sc xs (i + 2)) := sc_rng
  refine z_callV X 179 (rm := rmN 238) (As := [.int (Int32.ofInt (sc xs (i + 1))), .int (Int32.ofInt (sc xs (i + 2)))]) (st := []) rfl rfl (by decide) rfl (by rw [E.1, E.2.1, E.2.2.1]; exact k_peak6 G Is13 JRLx_s13 JMDJ_s13 (by first | exact ⟨sr15.1, sr15.2⟩ | omega) (by first | exact ⟨sr16.1, sr16.2⟩ | omega) (by first | exact oq_b44a1c7f ws13_89 p1 b10.1 | omega)) ⟨by rw [E.2.2.2]; exact (show 39 + 1 ≤ 2048 from oq_dead3895), by rw [E.2.2.2]; exact (show 8 + (5 + 11) + 1622 ≤ 84000 from oq_16841511), by rw [E.2.2.2]; exact (show (ce + 2) + 0 ≤ 601024 by first | (clear hps13; omega) | omega), by rw [E.2.2.2]; exact (show (sl + 12) + 0 ≤ 7293034 by first | (clear hps13; omega) | omega)⟩ (Nat.le_of_ble_eq_true rfl) (fun vv s17 hq => ?_) (fun ee s17 hq => ?_)
  rotate_left
  · obtain ⟨Is17, Fs17, JRLx_s17, e18, hv, hrs17, hps17⟩ := hq; cases hv
  obtain ⟨Is17, Fs17, JRLx_s17, e18, hv, hrs17, hps17⟩ := hq
  cases hv
  have JRLx_s17 : RLx s17 := RLx_fm Fs17 (by decide) JRLx_s13
  have JFEQ_s17 : FEQ s17 := FEQ_fm Fs17 (by decide) JFEQ_s13
  have JRWJ_s17 : RWJ s17 := RWJ_fm Fs17 (by decide +kernel) JRWJ_s13
  have JFTK_s17 : FTK s17 := FTK_fm Fs17 (by decide) JFTK_s13
  have JARJ_s17 : ARJ s17 := ARJ_fm Fs17 ⟨by decide +kernel, by decide +kernel, by decide +kernel, by decide +kernel, by decide +kernel, by decide +kernel, by decide +kernel, by decide +kernel⟩ JARJ_s13
  have JPTJ_s17 : PTJ s17 := PTJ_fm Fs17 (by decide +kernel) JPTJ_s13
  have ws17_0 : iI s17 0 = iI s13 0 := fm_iq Fs17 rfl
  have ws17_74 : iI s17 74 = iI s13 74 := fm_iq Fs17 rfl
  have ws17_9 : iI s17 9 = iI s13 9 := fm_iq Fs17 rfl
  have ws17_90 : iI s17 90 = iI s13 90 := fm_iq Fs17 rfl
  have ws17_20 : iI s17 20 = iI s13 20 := fm_iq Fs17 rfl
  have ws17_98 : iI s17 98 = iI s13 98 := fm_iq Fs17 rfl
  have ws17_70 : iI s17 70 = iI s13 70 := fm_iq Fs17 rfl
  have ws17_107 : iI s17 107 = iI s13 107 := fm_iq Fs17 rfl
  have ws17_12 : iI s17 12 = iI s13 12 := fm_iq Fs17 rfl
  have ws17_89 : iI s17 89 = iI s13 89 := fm_iq Fs17 rfl
  have wos17 : iO s17 = iO s13 := fm_o Fs17 (by decide)
  show WS k 783 [(5, .int (Int32.ofInt e14)), (0, .ref q1), (1, .ref (A 0)), (2, .ref (A 179)), (3, .ref (A 517)), (4, .int (Int32.ofInt i))] [.int (Int32.ofInt e18)] (Wd A dT s17) (ce + 2) (sl + 12)
  rcases hps13 with cc | cc
  ·
    rcases hps17 with mm | mm
    ·
      have rq19 := pke_eq (fun j hj => (jPTJ.2.1 j hj).trans ((sam_fm Fs13 (by decide +kernel) : SAM 228 _ _) j).symm) cc.2.2.2 mm.2.2.2
      refine z_store X (lv' := [(6, .int (Int32.ofInt e18)), (5, .int (Int32.ofInt e14)), (0, .ref q1), (1, .ref (A 0)), (2, .ref (A 179)), (3, .ref (A 517)), (4, .int (Int32.ofInt i))]) rfl (by decide) (fun _ h => h) (z_goto X (t := 1894) rfl rfl (w_widen (ce' := ce + 29) (sl' := sl + 222) (by first | exact Nat.le_add_right _ _ | exact Nat.add_le_add_left (by decide) _ | omega) (by first | exact Nat.le_add_right _ _ | exact Nat.add_le_add_left (by decide) _ | omega) ?_))
      exact WS_lv (lv := [(0, .ref q1), (1, .ref (A 0)), (2, .ref (A 179)), (3, .ref (A 517)), (4, .int (Int32.ofInt i))]) (List.forall_mem_cons.mpr ⟨(List.Mem.tail _ (List.Mem.tail _ (List.Mem.head _))), (List.forall_mem_cons.mpr ⟨(List.Mem.tail _ (List.Mem.tail _ (List.Mem.tail _ (List.Mem.head _)))), (List.forall_mem_cons.mpr ⟨(List.Mem.tail _ (List.Mem.tail _ (List.Mem.tail _ (List.Mem.tail _ (List.Mem.head _))))), (List.forall_mem_cons.mpr ⟨(List.Mem.tail _ (List.Mem.tail _ (List.Mem.tail _ (List.Mem.tail _ (List.Mem.tail _ (List.Mem.head _)))))), (List.forall_mem_cons.mpr ⟨(List.Mem.tail _ (List.Mem.tail _ (List.Mem.tail _ (List.Mem.tail _ (List.Mem.tail _ (List.Mem.tail _ (List.Mem.head _))))))), (fun q h => absurd h List.not_mem_nil)⟩)⟩)⟩)⟩)⟩) (hk A _ Is17 JRLx_s17 JFEQ_s17 JRWJ_s17 JFTK_s17 JARJ_s17 JPTJ_s17 (by first | exact oq_f34933ba ws17_89 ws13_89 p1 b10.1 | omega) (by first | exact oq_d7ce4408 ws17_12 ws13_12 p2 | omega) (by first | exact oq_5bcdc35f ws17_74 ws17_0 ws13_74 ws13_0 p3 | omega) (by first | exact oq_5bcdc35f ws17_90 ws17_9 ws13_90 ws13_9 p4 | omega) (by first | exact oq_5bcdc35f ws17_98 ws17_20 ws13_98 ws13_20 p5 | omega) (by first | exact oq_5bcdc35f ws17_107 ws17_70 ws13_107 ws13_70 p6 | omega))
    ·
      exfalso
      omega
  ·
    rcases hps17 with mm | mm
    ·
      exfalso
      omega
    ·
      refine z_store X (lv' := [(6, .int (Int32.ofInt e18)), (5, .int (Int32.ofInt e14)), (0, .ref q1), (1, .ref (A 0)), (2, .ref (A 179)), (3, .ref (A 517)), (4, .int (Int32.ofInt i))]) rfl (by decide) (fun _ h => h) (z_goto X (t := 1894) rfl rfl (w_widen (ce' := ce + 29) (sl' := sl + 222) (by first | exact Nat.le_add_right _ _ | exact Nat.add_le_add_left (by decide) _ | omega) (by first | exact Nat.le_add_right _ _ | exact Nat.add_le_add_left (by decide) _ | omega) ?_))
      exact WS_lv (lv := [(0, .ref q1), (1, .ref (A 0)), (2, .ref (A 179)), (3, .ref (A 517)), (4, .int (Int32.ofInt i))]) (List.forall_mem_cons.mpr ⟨(List.Mem.tail _ (List.Mem.tail _ (List.Mem.head _))), (List.forall_mem_cons.mpr ⟨(List.Mem.tail _ (List.Mem.tail _ (List.Mem.tail _ (List.Mem.head _)))), (List.forall_mem_cons.mpr ⟨(List.Mem.tail _ (List.Mem.tail _ (List.Mem.tail _ (List.Mem.tail _ (List.Mem.head _))))), (List.forall_mem_cons.mpr ⟨(List.Mem.tail _ (List.Mem.tail _ (List.Mem.tail _ (List.Mem.tail _ (List.Mem.tail _ (List.Mem.head _)))))), (List.forall_mem_cons.mpr ⟨(List.Mem.tail _ (List.Mem.tail _ (List.Mem.tail _ (List.Mem.tail _ (List.Mem.tail _ (List.Mem.tail _ (List.Mem.head _))))))), (fun q h => absurd h List.not_mem_nil)⟩)⟩)⟩)⟩)⟩) (hk A _ Is17 JRLx_s17 JFEQ_s17 JRWJ_s17 JFTK_s17 JARJ_s17 JPTJ_s17 (by first | exact oq_f34933ba ws17_89 ws13_89 p1 b10.1 | omega) (by first | exact oq_d7ce4408 ws17_12 ws13_12 p2 | omega) (by first | exact oq_5bcdc35f ws17_74 ws17_0 ws13_74 ws13_0 p3 | omega) (by first | exact oq_5bcdc35f ws17_90 ws17_9 ws13_90 ws13_9 p4 | omega) (by first | exact oq_5bcdc35f ws17_98 ws17_20 ws13_98 ws13_20 p5 | omega) (by first | exact oq_5bcdc35f ws17_107 ws17_70 ws13_107 ws13_70 p6 | omega))
theorem lc_13 (G : GX l s0 D tys a0 dT) (GR : RS0 s0) (SF : SF0 s0) (GT : TXs0 s0) (GW : TXw0 s0) {k : kx_T} (X : AX k 350 dT) (E : kL k = l ∧ kS0 k = s0 ∧ kD k = D ∧ kR k = room_1) {q1 L : Nat} {xs : Nat → Int32} (S : SX k q1 L xs) (hL : L ≤ 3072) (I : Bd s) (jR : RLx s) (jFEQ : FEQ s) (jRWJ : RWJ s) (jFTK : FTK s) (jARJ : ARJ s) (jPTJ : PTJ s) (p1 : iI s 89 = 1) (p2 : iI s 12 ≤ 8) (p3 : iI s 0 = iI s 74) (p4 : iI s 9 = iI s 90) (p5 : iI s 20 = iI s 98) (p6 : iI s 70 = iI s 107) {i : Int} (hi : 0 ≤ i ∧ i + 6 ≤ (L : Int)) {ce sl : Nat} (hce : ce + 29 ≤ 601024) (hsl : sl + 222 ≤ 7293034) (hk : ∀ (A : Nat → Nat) (t : PS), Bd t → RLx t → FEQ t → RWJ t → FTK t → ARJ t → PTJ t → iI t 89 = 1 → iI t 12 ≤ 8 → iI t 0 = iI t 74 → iI t 9 = iI t 90 → iI t 20 = iI t 98 → iI t 70 = iI t 107 → WS k 1894 [(0, .ref q1), (1, .ref (A 0)), (2, .ref (A 179)), (3, .ref (A 517)), (4, .int (Int32.ofInt i))] [] (Wd A dT t) (ce + 29) (sl + 222)) : WS k 788 [(0, .ref q1), (1, .ref (A 0)), (2, .ref (A 179)), (3, .ref (A 517)), (4, .int (Int32.ofInt i))] [] (Wd A dT s) ce sl := by
  have F : Fm [73] [1460, 231, 232, 230] s s := fm_rf _ _ s
  have b1 := bi_0 I
  have b2 := bi_74 I
  have b3 := bi_9 I
  have b4 := bi_90 I
  have b5 := bi_20 I
  have b6 := bi_98 I
  have b7 := bi_70 I
  have b8 := bi_107 I
  have b9 := bi_12 I
  have b10 := bi_89 I
  refine z_aload_n X (x := A 0) rfl (List.Mem.tail _ (List.Mem.head _)) (z_aload_n X (x := q1) rfl (List.Mem.head _) (z_load X (x := i) rfl (List.Mem.tail _ (List.Mem.tail _ (List.Mem.tail _ (List.Mem.tail _ (List.Mem.head _))))) (z_const X rfl (z_add X rfl (z_sld X S hL rfl (show 0 ≤ (i + 1) ∧ (i + 1) < (L : Int) by first | exact sx_in hi (by decide) | omega) ?_)))))
  have sr11 : rng (sc xs (i + 1)) := sc_rng
  refine z_aload_n X (x := A 517) rfl (List.Mem.tail _ (List.Mem.tail _ (List.Mem.tail _ (List.Mem.head _)))) (z_callL X (rm := rmN 325) (As := [.ref (A 0), .int (Int32.ofInt (sc xs (i + 1))), .ref (A 517)]) (st := []) rfl (by decide) rfl (by rw [E.1, E.2.1, E.2.2.1]; exact lw_whole6 G I jPTJ.1 (by omega)) ⟨by rw [E.2.2.2]; exact (show 10 + 1 ≤ 2048 by decide), by rw [E.2.2.2]; exact (show 8 + (4 + 11) + 203 ≤ 84000 by decide), by rw [E.2.2.2]; exact (show ce + 1 ≤ 601024 by first | exact rmo_1 hce (by decide) | exact rmo_2 hce (by decide) | omega), by rw [E.2.2.2]; exact (show sl + 6 ≤ 7293034 by first | exact rmo_1 hsl (by decide) | exact rmo_2 hsl (by decide) | omega)⟩ (Nat.le_of_ble_eq_true rfl) (fun vv A s12 hA2 hq => ?_) (fun ee A s12 hA2 hq => ?_))
  rotate_left
  · obtain ⟨Is12, Fs12, e13, hv, hrs12, hps12⟩ := hq; cases hv
  obtain ⟨Is12, Fs12, e13, hv, hrs12, hps12⟩ := hq
  cases hv
  rw [← hA2 0 (by decide)]
  rw [← hA2 179 (by decide)]
  rw [← hA2 517 (by decide)]
  have JRLx_s12 : RLx s12 := RLx_fm Fs12 (by decide) jR
  have JFEQ_s12 : FEQ s12 := FEQ_fm Fs12 (by decide) jFEQ
  have JRWJ_s12 : RWJ s12 := RWJ_fm Fs12 (by decide +kernel) jRWJ
  have JFTK_s12 : FTK s12 := FTK_fm Fs12 (by decide) jFTK
  have JARJ_s12 : ARJ s12 := ARJ_fm Fs12 ⟨by decide +kernel, by decide +kernel, by decide +kernel, by decide +kernel, by decide +kernel, by decide +kernel, by decide +kernel, by decide +kernel⟩ jARJ
  have JPTJ_s12 : PTJ s12 := PTJ_fm Fs12 (by decide +kernel) jPTJ
  have ws12_0 : iI s12 0 = iI s 0 := fm_iq Fs12 rfl
  have ws12_74 : iI s12 74 = iI s 74 := fm_iq Fs12 rfl
  have ws12_9 : iI s12 9 = iI s 9 := fm_iq Fs12 rfl
  have ws12_90 : iI s12 90 = iI s 90 := fm_iq Fs12 rfl
  have ws12_20 : iI s12 20 = iI s 20 := fm_iq Fs12 rfl
  have ws12_98 : iI s12 98 = iI s 98 := fm_iq Fs12 rfl
  have ws12_70 : iI s12 70 = iI s 70 := fm_iq Fs12 rfl
  have ws12_107 : iI s12 107 = iI s 107 := fm_iq Fs12 rfl
  have ws12_12 : iI s12 12 = iI s 12 := fm_iq Fs12 rfl
  have ws12_89 : iI s12 89 = iI s 89 := fm_iq Fs12 rfl
  show WS k 799 [(0, .ref q1), (1, .ref (A 0)), (2, .ref (A 179)), (3, .ref (A 517)), (4, .int (Int32.ofInt i))] [.int (Int32.ofInt e13)] (Wd A dT s12) (ce + 1) (sl + 6)
  refine z_store X (lv' := [(5, .int (Int32.ofInt e13)), (0, .ref q1), (1, .ref (A 0)), (2, .ref (A 179)), (3, .ref (A 517)), (4, .int (Int32.ofInt i))]) rfl (by decide) (fun _ h => h) (z_aload_n X (x := A 179) rfl (List.Mem.tail _ (List.Mem.tail _ (List.Mem.tail _ (List.Mem.head _)))) (z_aload_n X (x := q1) rfl (List.Mem.tail _ (List.Mem.head _)) (z_load X (x := i) rfl (List.Mem.tail _ (List.Mem.tail _ (List.Mem.tail _ (List.Mem.tail _ (List.Mem.tail _ (List.Mem.head _)))))) (z_const X rfl (z_add X rfl (z_sld X S hL rfl (show 0 ≤ (i + 1) ∧ (i + 1) < (L : Int) by first | exact sx_in hi (by decide) | omega) ?_))))))
  have sr14 : rng (sc xs (i + 1)) := sc_rng
  refine z_callV X 179 (rm := rmN 241) (As := [.int (Int32.ofInt (sc xs (i + 1)))]) (st := []) rfl rfl (by decide) rfl (by rw [E.1, E.2.1, E.2.2.1]; exact k_whole6 G Is12 (by first | exact ⟨sr14.1, sr14.2⟩ | omega)) ⟨by rw [E.2.2.2]; exact (show 9 + 1 ≤ 2048 from oq_1d601463), by rw [E.2.2.2]; exact (show 8 + (2 + 11) + 171 ≤ 84000 from oq_485672f1), by rw [E.2.2.2]; exact (show (ce + 1) + 0 ≤ 601024 by first | (clear hps12; omega) | omega), by rw [E.2.2.2]; exact (show (sl + 6) + 0 ≤ 7293034 by first | (clear hps12; omega) | omega)⟩ (Nat.le_of_ble_eq_true rfl) (fun vv s15 hq => ?_) (fun ee s15 hq => ?_)
  rotate_left
  · obtain ⟨Is15, Fs15, e16, hv, hrs15, hps15⟩ := hq; cases hv
  obtain ⟨Is15, Fs15, e16, hv, hrs15, hps15⟩ := hq
  cases hv
  have JRLx_s15 : RLx s15 := RLx_fm Fs15 (by decide) JRLx_s12
  have JFEQ_s15 : FEQ s15 := FEQ_fm Fs15 (by decide) JFEQ_s12
  have JRWJ_s15 : RWJ s15 := RWJ_fm Fs15 (by decide +kernel) JRWJ_s12
  have JFTK_s15 : FTK s15 := FTK_fm Fs15 (by decide) JFTK_s12
  have JARJ_s15 : ARJ s15 := ARJ_fm Fs15 ⟨by decide +kernel, by decide +kernel, by decide +kernel, by decide +kernel, by decide +kernel, by decide +kernel, by decide +kernel, by decide +kernel⟩ JARJ_s12
  have JPTJ_s15 : PTJ s15 := PTJ_fm Fs15 (by decide +kernel) JPTJ_s12
  have ws15_0 : iI s15 0 = iI s12 0 := fm_iq Fs15 rfl
  have ws15_74 : iI s15 74 = iI s12 74 := fm_iq Fs15 rfl
  have ws15_9 : iI s15 9 = iI s12 9 := fm_iq Fs15 rfl
  have ws15_90 : iI s15 90 = iI s12 90 := fm_iq Fs15 rfl
  have ws15_20 : iI s15 20 = iI s12 20 := fm_iq Fs15 rfl
  have ws15_98 : iI s15 98 = iI s12 98 := fm_iq Fs15 rfl
  have ws15_70 : iI s15 70 = iI s12 70 := fm_iq Fs15 rfl
  have ws15_107 : iI s15 107 = iI s12 107 := fm_iq Fs15 rfl
  have ws15_12 : iI s15 12 = iI s12 12 := fm_iq Fs15 rfl
  have ws15_89 : iI s15 89 = iI s12 89 := fm_iq Fs15 rfl
  have wos15 : iO s15 = iO s12 := fm_o Fs15 (by decide)
  show WS k 811 [(5, .int (Int32.ofInt e13)), (0, .ref q1), (1, .ref (A 0)), (2, .ref (A 179)), (3, .ref (A 517)), (4, .int (Int32.ofInt i))] [.int (Int32.ofInt e16)] (Wd A dT s15) (ce + 1) (sl + 6)
  rcases hps12 with cc | cc
  ·
    rcases hps15 with mm | mm
    ·
      have rq17 := hge_eq (fun j hj => (jPTJ.2.1 j hj).trans ((sam_fm Fs12 (by decide +kernel) : SAM 228 _ _) j).symm) cc.2.2.2 mm.2.2.2
      have rqB : e16 = 1 ∨ e16 = 0 := mm.2.2.2.elim (fun z => Or.inl z.1) (fun z => Or.inr z.1)
      refine z_store X (lv' := [(6, .int (Int32.ofInt e16)), (5, .int (Int32.ofInt e13)), (0, .ref q1), (1, .ref (A 0)), (2, .ref (A 179)), (3, .ref (A 517)), (4, .int (Int32.ofInt i))]) rfl (by decide) (fun _ h => h) (z_goto X (t := 1894) rfl rfl (w_widen (ce' := ce + 29) (sl' := sl + 222) (by first | exact Nat.le_add_right _ _ | exact Nat.add_le_add_left (by decide) _ | omega) (by first | exact Nat.le_add_right _ _ | exact Nat.add_le_add_left (by decide) _ | omega) ?_))
      exact WS_lv (lv := [(0, .ref q1), (1, .ref (A 0)), (2, .ref (A 179)), (3, .ref (A 517)), (4, .int (Int32.ofInt i))]) (List.forall_mem_cons.mpr ⟨(List.Mem.tail _ (List.Mem.tail _ (List.Mem.head _))), (List.forall_mem_cons.mpr ⟨(List.Mem.tail _ (List.Mem.tail _ (List.Mem.tail _ (List.Mem.head _)))), (List.forall_mem_cons.mpr ⟨(List.Mem.tail _ (List.Mem.tail _ (List.Mem.tail _ (List.Mem.tail _ (List.Mem.head _))))), (List.forall_mem_cons.mpr ⟨(List.Mem.tail _ (List.Mem.tail _ (List.Mem.tail _ (List.Mem.tail _ (List.Mem.tail _ (List.Mem.head _)))))), (List.forall_mem_cons.mpr ⟨(List.Mem.tail _ (List.Mem.tail _ (List.Mem.tail _ (List.Mem.tail _ (List.Mem.tail _ (List.Mem.tail _ (List.Mem.head _))))))), (fun q h => absurd h List.not_mem_nil)⟩)⟩)⟩)⟩)⟩) (hk A _ Is15 JRLx_s15 JFEQ_s15 JRWJ_s15 JFTK_s15 JARJ_s15 JPTJ_s15 (by first | exact oq_f34933ba ws15_89 ws12_89 p1 b10.1 | omega) (by first | exact oq_d7ce4408 ws15_12 ws12_12 p2 | omega) (by first | exact oq_5bcdc35f ws15_74 ws15_0 ws12_74 ws12_0 p3 | omega) (by first | exact oq_5bcdc35f ws15_90 ws15_9 ws12_90 ws12_9 p4 | omega) (by first | exact oq_5bcdc35f ws15_98 ws15_20 ws12_98 ws12_20 p5 | omega) (by first | exact oq_5bcdc35f ws15_107 ws15_70 ws12_107 ws12_70 p6 | omega))
    ·
      exfalso
      omega
  ·
    rcases hps15 with mm | mm
    ·
      exfalso
      omega
    ·
      refine z_store X (lv' := [(6, .int (Int32.ofInt e16)), (5, .int (Int32.ofInt e13)), (0, .ref q1), (1, .ref (A 0)), (2, .ref (A 179)), (3, .ref (A 517)), (4, .int (Int32.ofInt i))]) rfl (by decide) (fun _ h => h) (z_goto X (t := 1894) rfl rfl (w_widen (ce' := ce + 29) (sl' := sl + 222) (by first | exact Nat.le_add_right _ _ | exact Nat.add_le_add_left (by decide) _ | omega) (by first | exact Nat.le_add_right _ _ | exact Nat.add_le_add_left (by decide) _ | omega) ?_))
      exact WS_lv (lv := [(0, .ref q1), (1, .ref (A 0)), (2, .ref (A 179)), (3, .ref (A 517)), (4, .int (Int32.ofInt i))]) (List.forall_mem_cons.mpr ⟨(List.Mem.tail _ (List.Mem.tail _ (List.Mem.head _))), (List.forall_mem_cons.mpr ⟨(List.Mem.tail _ (List.Mem.tail _ (List.Mem.tail _ (List.Mem.head _)))), (List.forall_mem_cons.mpr ⟨(List.Mem.tail _ (List.Mem.tail _ (List.Mem.tail _ (List.Mem.tail _ (List.Mem.head _))))), (List.forall_mem_cons.mpr ⟨(List.Mem.tail _ (List.Mem.tail _ (List.Mem.tail _ (List.Mem.tail _ (List.Mem.tail _ (List.Mem.head _)))))), (List.forall_mem_cons.mpr ⟨(List.Mem.tail _ (List.Mem.tail _ (List.Mem.tail _ (List.Mem.tail _ (List.Mem.tail _ (List.Mem.tail _ (List.Mem.head _))))))), (fun q h => absurd h List.not_mem_nil)⟩)⟩)⟩)⟩)⟩) (hk A _ Is15 JRLx_s15 JFEQ_s15 JRWJ_s15 JFTK_s15 JARJ_s15 JPTJ_s15 (by first | exact oq_f34933ba ws15_89 ws12_89 p1 b10.1 | omega) (by first | exact oq_d7ce4408 ws15_12 ws12_12 p2 | omega) (by first | exact oq_5bcdc35f ws15_74 ws15_0 ws12_74 ws12_0 p3 | omega) (by first | exact oq_5bcdc35f ws15_90 ws15_9 ws12_90 ws12_9 p4 | omega) (by first | exact oq_5bcdc35f ws15_98 ws15_20 ws12_98 ws12_20 p5 | omega) (by first | exact oq_5bcdc35f ws15_107 ws15_70 ws12_107 ws12_70 p6 | omega))
theorem lc_14 (G : GX l s0 D tys a0 dT) (GR : RS0 s0) (SF : SF0 s0) (GT : TXs0 s0) (GW : TXw0 s0) {k : kx_T} (X : AX k 350 dT) (E : kL k = l ∧ kS0 k = s0 ∧ kD k = D ∧ kR k = room_1) {q1 L : Nat} {xs : Nat → Int32} (S : SX k q1 L xs) (hL : L ≤ 3072) (I : Bd s) (jR : RLx s) (jFEQ : FEQ s) (jRWJ : RWJ s) (jFTK : FTK s) (jARJ : ARJ s) (jPTJ : PTJ s) (p1 : iI s 89 = 1) (p2 : iI s 12 ≤ 8) (p3 : iI s 0 = iI s 74) (p4 : iI s 9 = iI s 90) (p5 : iI s 20 = iI s 98) (p6 : iI s 70 = iI s 107) {i : Int} (hi : 0 ≤ i ∧ i + 6 ≤ (L : Int)) {ce sl : Nat} (hce : ce + 29 ≤ 601024) (hsl : sl + 222 ≤ 7293034) (hk : ∀ (A : Nat → Nat) (t : PS), Bd t → RLx t → FEQ t → RWJ t → FTK t → ARJ t → PTJ t → iI t 89 = 1 → iI t 12 ≤ 8 → iI t 0 = iI t 74 → iI t 9 = iI t 90 → iI t 20 = iI t 98 → iI t 70 = iI t 107 → WS k 1894 [(0, .ref q1), (1, .ref (A 0)), (2, .ref (A 179)), (3, .ref (A 517)), (4, .int (Int32.ofInt i))] [] (Wd A dT t) (ce + 29) (sl + 222)) : WS k 816 [(0, .ref q1), (1, .ref (A 0)), (2, .ref (A 179)), (3, .ref (A 517)), (4, .int (Int32.ofInt i))] [] (Wd A dT s) ce sl := by
  have F : Fm [73] [1460, 231, 232, 230] s s := fm_rf _ _ s
  have b1 := bi_0 I
  have b2 := bi_74 I
  have b3 := bi_9 I
  have b4 := bi_90 I
  have b5 := bi_20 I
  have b6 := bi_98 I
  have b7 := bi_70 I
  have b8 := bi_107 I
  have b9 := bi_12 I
  have b10 := bi_89 I
  refine z_aload_n X (x := A 0) rfl (List.Mem.tail _ (List.Mem.head _)) (z_aload_n X (x := q1) rfl (List.Mem.head _) (z_load X (x := i) rfl (List.Mem.tail _ (List.Mem.tail _ (List.Mem.tail _ (List.Mem.tail _ (List.Mem.head _))))) (z_const X rfl (z_add X rfl (z_sld X S hL rfl (show 0 ≤ (i + 1) ∧ (i + 1) < (L : Int) by first | exact sx_in hi (by decide) | omega) ?_)))))
  have sr11 : rng (sc xs (i + 1)) := sc_rng
  refine z_aload_n X (x := q1) rfl (List.Mem.head _) (z_load X (x := i) rfl (List.Mem.tail _ (List.Mem.tail _ (List.Mem.tail _ (List.Mem.tail _ (List.Mem.head _))))) (z_const X rfl (z_add X rfl (z_sld X S hL rfl (show 0 ≤ (i + 2) ∧ (i + 2) < (L : Int) by first | exact sx_in hi (by decide) | omega) ?_))))
  have sr12 : rng (sc xs (i + 2)) := sc_rng
  refine z_aload_n X (x := A 517) rfl (List.Mem.tail _ (List.Mem.tail _ (List.Mem.tail _ (List.Mem.head _)))) (z_callL X (rm := rmN 326) (As := [.ref (A 0), .int (Int32.ofInt (sc xs (i + 1))), .int (Int32.ofInt (sc xs (i + 2))), .ref (A 517)]) (st := []) rfl (by decide) rfl (by rw [E.1, E.2.1, E.2.2.1]; exact lw_neck G I (by omega) (by omega)) ⟨by rw [E.2.2.2]; exact (show 11 + 1 ≤ 2048 by decide), by rw [E.2.2.2]; exact (show 8 + (5 + 11) + 235 ≤ 84000 by decide), by rw [E.2.2.2]; exact (show ce + 1 ≤ 601024 by first | exact rmo_1 hce (by decide) | exact rmo_2 hce (by decide) | omega), by rw [E.2.2.2]; exact (show sl + 6 ≤ 7293034 by first | exact rmo_1 hsl (by decide) | exact rmo_2 hsl (by decide) | omega)⟩ (Nat.le_of_ble_eq_true rfl) (fun vv A s13 hA2 hq => ?_) (fun ee A s13 hA2 hq => ?_))
  rotate_left
  · obtain ⟨Is13, Fs13, e14, hv, hrs13, hps13⟩ := hq; cases hv
  obtain ⟨Is13, Fs13, e14, hv, hrs13, hps13⟩ := hq
  cases hv
  rw [← hA2 0 (by decide)]
  rw [← hA2 179 (by decide)]
  rw [← hA2 517 (by decide)]
  have JRLx_s13 : RLx s13 := RLx_fm Fs13 (by decide) jR
  have JFEQ_s13 : FEQ s13 := FEQ_fm Fs13 (by decide) jFEQ
  have JRWJ_s13 : RWJ s13 := RWJ_fm Fs13 (by decide +kernel) jRWJ
  have JFTK_s13 : FTK s13 := FTK_fm Fs13 (by decide) jFTK
  have JARJ_s13 : ARJ s13 := ARJ_fm Fs13 ⟨by decide +kernel, by decide +kernel, by decide +kernel, by decide +kernel, by decide +kernel, by decide +kernel, by decide +kernel, by decide +kernel⟩ jARJ
  have JPTJ_s13 : PTJ s13 := PTJ_fm Fs13 (by decide +kernel) jPTJ
  have ws13_0 : iI s13 0 = iI s 0 := fm_iq Fs13 rfl
  have ws13_74 : iI s13 74 = iI s 74 := fm_iq Fs13 rfl
  have ws13_9 : iI s13 9 = iI s 9 := fm_iq Fs13 rfl
  have ws13_90 : iI s13 90 = iI s 90 := fm_iq Fs13 rfl
  have ws13_20 : iI s13 20 = iI s 20 := fm_iq Fs13 rfl
  have ws13_98 : iI s13 98 = iI s 98 := fm_iq Fs13 rfl
  have ws13_70 : iI s13 70 = iI s 70 := fm_iq Fs13 rfl
  have ws13_107 : iI s13 107 = iI s 107 := fm_iq Fs13 rfl
  have ws13_12 : iI s13 12 = iI s 12 := fm_iq Fs13 rfl
  have ws13_89 : iI s13 89 = iI s 89 := fm_iq Fs13 rfl
  show WS k 833 [(0, .ref q1), (1, .ref (A 0)), (2, .ref (A 179)), (3, .ref (A 517)), (4, .int (Int32.ofInt i))] [.int (Int32.ofInt e14)] (Wd A dT s13) (ce + 1) (sl + 6)
  refine z_store X (lv' := [(5, .int (Int32.ofInt e14)), (0, .ref q1), (1, .ref (A 0)), (2, .ref (A 179)), (3, .ref (A 517)), (4, .int (Int32.ofInt i))]) rfl (by decide) (fun _ h => h) (z_aload_n X (x := A 179) rfl (List.Mem.tail _ (List.Mem.tail _ (List.Mem.tail _ (List.Mem.head _)))) (z_aload_n X (x := q1) rfl (List.Mem.tail _ (List.Mem.head _)) (z_load X (x := i) rfl (List.Mem.tail _ (List.Mem.tail _ (List.Mem.tail _ (List.Mem.tail _ (List.Mem.tail _ (List.Mem.head _)))))) (z_const X rfl (z_add X rfl (z_sld X S hL rfl (show 0 ≤ (i + 1) ∧ (i + 1) < (L : Int) by first | exact sx_in hi (by decide) | omega) ?_))))))
  have sr15 : rng (sc xs (i + 1)) := sc_rng
  refine z_aload_n X (x := q1) rfl (List.Mem.tail _ (List.Mem.head _)) (z_load X (x := i) rfl (List.Mem.tail _ (List.Mem.tail _ (List.Mem.tail _ (List.Mem.tail _ (List.Mem.tail _ (List.Mem.head _)))))) (z_const X rfl (z_add X rfl (z_sld X S hL rfl (show 0 ≤ (i + 2) ∧ (i + 2) < (L : Int) by first | exact sx_in hi (by decide) | omega) ?_))))
  have sr16 : rng (sc xs (i + 2)) := sc_rng
  refine z_callV X 179 (rm := rmN 242) (As := [.int (Int32.ofInt (sc xs (i + 1))), .int (Int32.ofInt (sc xs (i + 2)))]) (st := []) rfl rfl (by decide) rfl (by rw [E.1, E.2.1, E.2.2.1]; exact k_neck G Is13 (by first | exact ⟨sr15.1, sr15.2⟩ | omega) (by first | exact ⟨sr16.1, sr16.2⟩ | omega)) ⟨by rw [E.2.2.2]; exact (show 9 + 1 ≤ 2048 from oq_1d601463), by rw [E.2.2.2]; exact (show 8 + (6 + 11) + 171 ≤ 84000 from oq_da2b07c8), by rw [E.2.2.2]; exact (show (ce + 1) + 0 ≤ 601024 by omega), by rw [E.2.2.2]; exact (show (sl + 6) + 0 ≤ 7293034 by omega)⟩ (Nat.le_of_ble_eq_true rfl) (fun vv s17 hq => ?_) (fun ee s17 hq => ?_)
  rotate_left
  · obtain ⟨Is17, Fs17, e18, hv, hrs17, hps17⟩ := hq; cases hv
  obtain ⟨Is17, Fs17, e18, hv, hrs17, hps17⟩ := hq
  cases hv
  have JRLx_s17 : RLx s17 := RLx_fm Fs17 (by decide) JRLx_s13
  have JFEQ_s17 : FEQ s17 := FEQ_fm Fs17 (by decide) JFEQ_s13
  have JRWJ_s17 : RWJ s17 := RWJ_fm Fs17 (by decide +kernel) JRWJ_s13
  have JFTK_s17 : FTK s17 := FTK_fm Fs17 (by decide) JFTK_s13
  have JARJ_s17 : ARJ s17 := ARJ_fm Fs17 ⟨by decide +kernel, by decide +kernel, by decide +kernel, by decide +kernel, by decide +kernel, by decide +kernel, by decide +kernel, by decide +kernel⟩ JARJ_s13
  have JPTJ_s17 : PTJ s17 := PTJ_fm Fs17 (by decide +kernel) JPTJ_s13
  have ws17_0 : iI s17 0 = iI s13 0 := fm_iq Fs17 rfl
  have ws17_74 : iI s17 74 = iI s13 74 := fm_iq Fs17 rfl
  have ws17_9 : iI s17 9 = iI s13 9 := fm_iq Fs17 rfl
  have ws17_90 : iI s17 90 = iI s13 90 := fm_iq Fs17 rfl
  have ws17_20 : iI s17 20 = iI s13 20 := fm_iq Fs17 rfl
  have ws17_98 : iI s17 98 = iI s13 98 := fm_iq Fs17 rfl
  have ws17_70 : iI s17 70 = iI s13 70 := fm_iq Fs17 rfl
  have ws17_107 : iI s17 107 = iI s13 107 := fm_iq Fs17 rfl
  have ws17_12 : iI s17 12 = iI s13 12 := fm_iq Fs17 rfl
  have ws17_89 : iI s17 89 = iI s13 89 := fm_iq Fs17 rfl
  have wos17 : iO s17 = iO s13 := fm_o Fs17 (by decide)
  show WS k 851 [(5, .int (Int32.ofInt e14)), (0, .ref q1), (1, .ref (A 0)), (2, .ref (A 179)), (3, .ref (A 517)), (4, .int (Int32.ofInt i))] [.int (Int32.ofInt e18)] (Wd A dT s17) (ce + 1) (sl + 6)
  refine z_store X (lv' := [(6, .int (Int32.ofInt e18)), (5, .int (Int32.ofInt e14)), (0, .ref q1), (1, .ref (A 0)), (2, .ref (A 179)), (3, .ref (A 517)), (4, .int (Int32.ofInt i))]) rfl (by decide) (fun _ h => h) (z_goto X (t := 1894) rfl rfl (w_widen (ce' := ce + 29) (sl' := sl + 222) (by first | exact Nat.le_add_right _ _ | exact Nat.add_le_add_left (by decide) _ | omega) (by first | exact Nat.le_add_right _ _ | exact Nat.add_le_add_left (by decide) _ | omega) ?_))
  exact WS_lv (lv := [(0, .ref q1), (1, .ref (A 0)), (2, .ref (A 179)), (3, .ref (A 517)), (4, .int (Int32.ofInt i))]) (List.forall_mem_cons.mpr ⟨(List.Mem.tail _ (List.Mem.tail _ (List.Mem.head _))), (List.forall_mem_cons.mpr ⟨(List.Mem.tail _ (List.Mem.tail _ (List.Mem.tail _ (List.Mem.head _)))), (List.forall_mem_cons.mpr ⟨(List.Mem.tail _ (List.Mem.tail _ (List.Mem.tail _ (List.Mem.tail _ (List.Mem.head _))))), (List.forall_mem_cons.mpr ⟨(List.Mem.tail _ (List.Mem.tail _ (List.Mem.tail _ (List.Mem.tail _ (List.Mem.tail _ (List.Mem.head _)))))), (List.forall_mem_cons.mpr ⟨(List.Mem.tail _ (List.Mem.tail _ (List.Mem.tail _ (List.Mem.tail _ (List.Mem.tail _ (List.Mem.tail _ (List.Mem.head _))))))), (fun q h => absurd h List.not_mem_nil)⟩)⟩)⟩)⟩)⟩) (hk A _ Is17 JRLx_s17 JFEQ_s17 JRWJ_s17 JFTK_s17 JARJ_s17 JPTJ_s17 (by first | exact oq_f34933ba ws17_89 ws13_89 p1 b10.1 | omega) (by first | exact oq_d7ce4408 ws17_12 ws13_12 p2 | omega) (by first | exact oq_5bcdc35f ws17_74 ws17_0 ws13_74 ws13_0 p3 | omega) (by first | exact oq_5bcdc35f ws17_90 ws17_9 ws13_90 ws13_9 p4 | omega) (by first | exact oq_5bcdc35f ws17_98 ws17_20 ws13_98 ws13_20 p5 | omega) (by first | exact oq_5bcdc35f ws17_107 ws17_70 ws13_107 ws13_70 p6 | omega))
theorem lc_15 (G : GX l s0 D tys a0 dT) (GR : RS0 s0) (SF : SF0 s0) (GT : TXs0 s0) (GW : TXw0 s0) {k : kx_T} (X : AX k 350 dT) (E : kL k = l ∧ kS0 k = s0 ∧ kD k = D ∧ kR k = room_1) {q1 L : Nat} {xs : Nat → Int32} (S : SX k q1 L xs) (hL : L ≤ 3072) (I : Bd s) (jR : RLx s) (jFEQ : FEQ s) (jRWJ : RWJ s) (jFTK : FTK s) (jARJ : ARJ s) (jPTJ : PTJ s) (p1 : iI s 89 = 1) (p2 : iI s 12 ≤ 8) (p3 : iI s 0 = iI s 74) (p4 : iI s 9 = iI s 90) (p5 : iI s 20 = iI s 98) (p6 : iI s 70 = iI s 107) {i : Int} (hi : 0 ≤ i ∧ i + 6 ≤ (L : Int)) {ce sl : Nat} (hce : ce + 29 ≤ 601024) (hsl : sl + 222 ≤ 7293034) (hk : ∀ (A : Nat → Nat) (t : PS), Bd t → RLx t → FEQ t → RWJ t → FTK t → ARJ t → PTJ t → iI t 89 = 1 → iI t 12 ≤ 8 → iI t 0 = iI t 74 → iI t 9 = iI t 90 → iI t 20 = iI t 98 → iI t 70 = iI t 107 → WS k 1894 [(0, .ref q1), (1, .ref (A 0)), (2, .ref (A 179)), (3, .ref (A 517)), (4, .int (Int32.ofInt i))] [] (Wd A dT t) (ce + 29) (sl + 222)) : WS k 856 [(0, .ref q1), (1, .ref (A 0)), (2, .ref (A 179)), (3, .ref (A 517)), (4, .int (Int32.ofInt i))] [] (Wd A dT s) ce sl := by
  have F : Fm [73] [1460] s s := fm_rf _ _ s
  have b1 := bi_0 I
  have b2 := bi_74 I
  have b3 := bi_9 I
  have b4 := bi_90 I
  have b5 := bi_20 I
  have b6 := bi_98 I
  have b7 := bi_70 I
  have b8 := bi_107 I
  have b9 := bi_12 I
  have b10 := bi_89 I
  refine z_aload_n X (x := A 0) rfl (List.Mem.tail _ (List.Mem.head _)) (z_aload_n X (x := q1) rfl (List.Mem.head _) (z_load X (x := i) rfl (List.Mem.tail _ (List.Mem.tail _ (List.Mem.tail _ (List.Mem.tail _ (List.Mem.head _))))) (z_const X rfl (z_add X rfl (z_sld X S hL rfl (show 0 ≤ (i + 1) ∧ (i + 1) < (L : Int) by first | exact sx_in hi (by decide) | omega) ?_)))))
  have sr11 : rng (sc xs (i + 1)) := sc_rng
  refine z_aload_n X (x := A 517) rfl (List.Mem.tail _ (List.Mem.tail _ (List.Mem.tail _ (List.Mem.head _)))) (z_callL X (rm := rmN 327) (As := [.ref (A 0), .int (Int32.ofInt (sc xs (i + 1))), .ref (A 517)]) (st := []) rfl (by decide) rfl (by rw [E.1, E.2.1, E.2.2.1]; exact lw_shorts G I (by omega)) ⟨by rw [E.2.2.2]; exact (show 10 + 1 ≤ 2048 by decide), by rw [E.2.2.2]; exact (show 8 + (4 + 11) + 198 ≤ 84000 by decide), by rw [E.2.2.2]; exact (show ce + 1 ≤ 601024 by first | exact rmo_1 hce (by decide) | exact rmo_2 hce (by decide) | omega), by rw [E.2.2.2]; exact (show sl + 6 ≤ 7293034 by first | exact rmo_1 hsl (by decide) | exact rmo_2 hsl (by decide) | omega)⟩ (Nat.le_of_ble_eq_true rfl) (fun vv A s12 hA2 hq => ?_) (fun ee A s12 hA2 hq => ?_))
  rotate_left
  · obtain ⟨Is12, Fs12, e13, hv, hrs12, hps12⟩ := hq; cases hv
  obtain ⟨Is12, Fs12, e13, hv, hrs12, hps12⟩ := hq
  cases hv
  rw [← hA2 0 (by decide)]
  rw [← hA2 179 (by decide)]
  rw [← hA2 517 (by decide)]
  have JRLx_s12 : RLx s12 := RLx_fm Fs12 (by decide) jR
  have JFEQ_s12 : FEQ s12 := FEQ_fm Fs12 (by decide) jFEQ
  have JRWJ_s12 : RWJ s12 := RWJ_fm Fs12 (by decide +kernel) jRWJ
  have JFTK_s12 : FTK s12 := FTK_fm Fs12 (by decide) jFTK
  have JARJ_s12 : ARJ s12 := ARJ_fm Fs12 ⟨by decide +kernel, by decide +kernel, by decide +kernel, by decide +kernel, by decide +kernel, by decide +kernel, by decide +kernel, by decide +kernel⟩ jARJ
  have JPTJ_s12 : PTJ s12 := PTJ_fm Fs12 (by decide +kernel) jPTJ
  have ws12_0 : iI s12 0 = iI s 0 := fm_iq Fs12 rfl
  have ws12_74 : iI s12 74 = iI s 74 := fm_iq Fs12 rfl
  have ws12_9 : iI s12 9 = iI s 9 := fm_iq Fs12 rfl
  have ws12_90 : iI s12 90 = iI s 90 := fm_iq Fs12 rfl
  have ws12_20 : iI s12 20 = iI s 20 := fm_iq Fs12 rfl
  have ws12_98 : iI s12 98 = iI s 98 := fm_iq Fs12 rfl
  have ws12_70 : iI s12 70 = iI s 70 := fm_iq Fs12 rfl
  have ws12_107 : iI s12 107 = iI s 107 := fm_iq Fs12 rfl
  have ws12_12 : iI s12 12 = iI s 12 := fm_iq Fs12 rfl
  have ws12_89 : iI s12 89 = iI s 89 := fm_iq Fs12 rfl
  show WS k 867 [(0, .ref q1), (1, .ref (A 0)), (2, .ref (A 179)), (3, .ref (A 517)), (4, .int (Int32.ofInt i))] [.int (Int32.ofInt e13)] (Wd A dT s12) (ce + 1) (sl + 6)
  refine z_store X (lv' := [(5, .int (Int32.ofInt e13)), (0, .ref q1), (1, .ref (A 0)), (2, .ref (A 179)), (3, .ref (A 517)), (4, .int (Int32.ofInt i))]) rfl (by decide) (fun _ h => h) (z_aload_n X (x := A 179) rfl (List.Mem.tail _ (List.Mem.tail _ (List.Mem.tail _ (List.Mem.head _)))) (z_aload_n X (x := q1) rfl (List.Mem.tail _ (List.Mem.head _)) (z_load X (x := i) rfl (List.Mem.tail _ (List.Mem.tail _ (List.Mem.tail _ (List.Mem.tail _ (List.Mem.tail _ (List.Mem.head _)))))) (z_const X rfl (z_add X rfl (z_sld X S hL rfl (show 0 ≤ (i + 1) ∧ (i + 1) < (L : Int) by first | exact sx_in hi (by decide) | omega) ?_))))))
  have sr14 : rng (sc xs (i + 1)) := sc_rng
  refine z_callV X 179 (rm := rmN 243) (As := [.int (Int32.ofInt (sc xs (i + 1)))]) (st := []) rfl rfl (by decide) rfl (by rw [E.1, E.2.1, E.2.2.1]; exact k_shorts G Is12 (by first | exact ⟨sr14.1, sr14.2⟩ | omega)) ⟨by rw [E.2.2.2]; exact (show 7 + 1 ≤ 2048 from oq_4e6106eb), by rw [E.2.2.2]; exact (show 8 + (7 + 11) + 122 ≤ 84000 from oq_f75bb075), by rw [E.2.2.2]; exact (show (ce + 1) + 0 ≤ 601024 by omega), by rw [E.2.2.2]; exact (show (sl + 6) + 0 ≤ 7293034 by omega)⟩ (Nat.le_of_ble_eq_true rfl) (fun vv s15 hq => ?_) (fun ee s15 hq => ?_)
  rotate_left
  · obtain ⟨Is15, Fs15, e16, hv, hrs15, hps15⟩ := hq; cases hv
  obtain ⟨Is15, Fs15, e16, hv, hrs15, hps15⟩ := hq
  cases hv
  have JRLx_s15 : RLx s15 := RLx_fm Fs15 (by decide) JRLx_s12
  have JFEQ_s15 : FEQ s15 := FEQ_fm Fs15 (by decide) JFEQ_s12
  have JRWJ_s15 : RWJ s15 := RWJ_fm Fs15 (by decide +kernel) JRWJ_s12
  have JFTK_s15 : FTK s15 := FTK_fm Fs15 (by decide) JFTK_s12
  have JARJ_s15 : ARJ s15 := ARJ_fm Fs15 ⟨by decide +kernel, by decide +kernel, by decide +kernel, by decide +kernel, by decide +kernel, by decide +kernel, by decide +kernel, by decide +kernel⟩ JARJ_s12
  have JPTJ_s15 : PTJ s15 := PTJ_fm Fs15 (by decide +kernel) JPTJ_s12
  have ws15_0 : iI s15 0 = iI s12 0 := fm_iq Fs15 rfl
  have ws15_74 : iI s15 74 = iI s12 74 := fm_iq Fs15 rfl
  have ws15_9 : iI s15 9 = iI s12 9 := fm_iq Fs15 rfl
  have ws15_90 : iI s15 90 = iI s12 90 := fm_iq Fs15 rfl
  have ws15_20 : iI s15 20 = iI s12 20 := fm_iq Fs15 rfl
  have ws15_98 : iI s15 98 = iI s12 98 := fm_iq Fs15 rfl
  have ws15_70 : iI s15 70 = iI s12 70 := fm_iq Fs15 rfl
  have ws15_107 : iI s15 107 = iI s12 107 := fm_iq Fs15 rfl
  have ws15_12 : iI s15 12 = iI s12 12 := fm_iq Fs15 rfl
  have ws15_89 : iI s15 89 = iI s12 89 := fm_iq Fs15 rfl
  have wos15 : iO s15 = iO s12 := fm_o Fs15 (by decide)
  show WS k 879 [(5, .int (Int32.ofInt e13)), (0, .ref q1), (1, .ref (A 0)), (2, .ref (A 179)), (3, .ref (A 517)), (4, .int (Int32.ofInt i))] [.int (Int32.ofInt e16)] (Wd A dT s15) (ce + 1) (sl + 6)
  refine z_store X (lv' := [(6, .int (Int32.ofInt e16)), (5, .int (Int32.ofInt e13)), (0, .ref q1), (1, .ref (A 0)), (2, .ref (A 179)), (3, .ref (A 517)), (4, .int (Int32.ofInt i))]) rfl (by decide) (fun _ h => h) (z_goto X (t := 1894) rfl rfl (w_widen (ce' := ce + 29) (sl' := sl + 222) (by first | exact Nat.le_add_right _ _ | exact Nat.add_le_add_left (by decide) _ | omega) (by first | exact Nat.le_add_right _ _ | exact Nat.add_le_add_left (by decide) _ | omega) ?_))
  exact WS_lv (lv := [(0, .ref q1), (1, .ref (A 0)), (2, .ref (A 179)), (3, .ref (A 517)), (4, .int (Int32.ofInt i))]) (List.forall_mem_cons.mpr ⟨(List.Mem.tail _ (List.Mem.tail _ (List.Mem.head _))), (List.forall_mem_cons.mpr ⟨(List.Mem.tail _ (List.Mem.tail _ (List.Mem.tail _ (List.Mem.head _)))), (List.forall_mem_cons.mpr ⟨(List.Mem.tail _ (List.Mem.tail _ (List.Mem.tail _ (List.Mem.tail _ (List.Mem.head _))))), (List.forall_mem_cons.mpr ⟨(List.Mem.tail _ (List.Mem.tail _ (List.Mem.tail _ (List.Mem.tail _ (List.Mem.tail _ (List.Mem.head _)))))), (List.forall_mem_cons.mpr ⟨(List.Mem.tail _ (List.Mem.tail _ (List.Mem.tail _ (List.Mem.tail _ (List.Mem.tail _ (List.Mem.tail _ (List.Mem.head _))))))), (fun q h => absurd h List.not_mem_nil)⟩)⟩)⟩)⟩)⟩) (hk A _ Is15 JRLx_s15 JFEQ_s15 JRWJ_s15 JFTK_s15 JARJ_s15 JPTJ_s15 (by first | exact oq_f34933ba ws15_89 ws12_89 p1 b10.1 | omega) (by first | exact oq_d7ce4408 ws15_12 ws12_12 p2 | omega) (by first | exact oq_5bcdc35f ws15_74 ws15_0 ws12_74 ws12_0 p3 | omega) (by first | exact oq_5bcdc35f ws15_90 ws15_9 ws12_90 ws12_9 p4 | omega) (by first | exact oq_5bcdc35f ws15_98 ws15_20 ws12_98 ws12_20 p5 | omega) (by first | exact oq_5bcdc35f ws15_107 ws15_70 ws12_107 ws12_70 p6 | omega))
theorem lc_16 (G : GX l s0 D tys a0 dT) (GR : RS0 s0) (SF : SF0 s0) (GT : TXs0 s0) (GW : TXw0 s0) {k : kx_T} (X : AX k 350 dT) (E : kL k = l ∧ kS0 k = s0 ∧ kD k = D ∧ kR k = room_1) {q1 L : Nat} {xs : Nat → Int32} (S : SX k q1 L xs) (hL : L ≤ 3072) (I : Bd s) (jR : RLx s) (jFEQ : FEQ s) (jRWJ : RWJ s) (jFTK : FTK s) (jARJ : ARJ s) (jPTJ : PTJ s) (p1 : iI s 89 = 1) (p2 : iI s 12 ≤ 8) (p3 : iI s 0 = iI s 74) (p4 : iI s 9 = iI s 90) (p5 : iI s 20 = iI s 98) (p6 : iI s 70 = iI s 107) {i : Int} (hi : 0 ≤ i ∧ i + 6 ≤ (L : Int)) {ce sl : Nat} (hce : ce + 29 ≤ 601024) (hsl : sl + 222 ≤ 7293034) (hk : ∀ (A : Nat → Nat) (t : PS), Bd t → RLx t → FEQ t → RWJ t → FTK t → ARJ t → PTJ t → iI t 89 = 1 → iI t 12 ≤ 8 → iI t 0 = iI t 74 → iI t 9 = iI t 90 → iI t 20 = iI t 98 → iI t 70 = iI t 107 → WS k 1894 [(0, .ref q1), (1, .ref (A 0)), (2, .ref (A 179)), (3, .ref (A 517)), (4, .int (Int32.ofInt i))] [] (Wd A dT t) (ce + 29) (sl + 222)) : WS k 884 [(0, .ref q1), (1, .ref (A 0)), (2, .ref (A 179)), (3, .ref (A 517)), (4, .int (Int32.ofInt i))] [] (Wd A dT s) ce sl := by
  have F : Fm [21, 73, 95] [1460] s s := fm_rf _ _ s
  have b1 := bi_0 I
  have b2 := bi_74 I
  have b3 := bi_9 I
  have b4 := bi_90 I
  have b5 := bi_20 I
  have b6 := bi_98 I
  have b7 := bi_70 I
  have b8 := bi_107 I
  have b9 := bi_12 I
  have b10 := bi_89 I
  refine z_aload_n X (x := A 0) rfl (List.Mem.tail _ (List.Mem.head _)) (z_aload_n X (x := q1) rfl (List.Mem.head _) (z_load X (x := i) rfl (List.Mem.tail _ (List.Mem.tail _ (List.Mem.tail _ (List.Mem.tail _ (List.Mem.head _))))) (z_const X rfl (z_add X rfl (z_sld X S hL rfl (show 0 ≤ (i + 1) ∧ (i + 1) < (L : Int) by first | exact sx_in hi (by decide) | omega) ?_)))))
  have sr11 : rng (sc xs (i + 1)) := sc_rng
  refine z_aload_n X (x := A 517) rfl (List.Mem.tail _ (List.Mem.tail _ (List.Mem.tail _ (List.Mem.head _)))) (z_callL X (rm := rmN 328) (As := [.ref (A 0), .int (Int32.ofInt (sc xs (i + 1))), .ref (A 517)]) (st := []) rfl (by decide) rfl (by rw [E.1, E.2.1, E.2.2.1]; exact lw_length G I (by omega)) ⟨by rw [E.2.2.2]; exact (show 8 + 1 ≤ 2048 by decide), by rw [E.2.2.2]; exact (show 8 + (4 + 11) + 145 ≤ 84000 by decide), by rw [E.2.2.2]; exact (show ce + 1 ≤ 601024 by first | exact rmo_1 hce (by decide) | exact rmo_2 hce (by decide) | omega), by rw [E.2.2.2]; exact (show sl + 6 ≤ 7293034 by first | exact rmo_1 hsl (by decide) | exact rmo_2 hsl (by decide) | omega)⟩ (Nat.le_of_ble_eq_true rfl) (fun vv A s12 hA2 hq => ?_) (fun ee A s12 hA2 hq => ?_))
  rotate_left
  · obtain ⟨Is12, Fs12, e13, hv, hrs12, hps12⟩ := hq; cases hv
  obtain ⟨Is12, Fs12, e13, hv, hrs12, hps12⟩ := hq
  cases hv
  rw [← hA2 0 (by decide)]
  rw [← hA2 179 (by decide)]
  rw [← hA2 517 (by decide)]
  have JRLx_s12 : RLx s12 := RLx_fm Fs12 (by decide) jR
  have JFEQ_s12 : FEQ s12 := FEQ_fm Fs12 (by decide) jFEQ
  have JRWJ_s12 : RWJ s12 := RWJ_fm Fs12 (by decide +kernel) jRWJ
  have JFTK_s12 : FTK s12 := FTK_fm Fs12 (by decide) jFTK
  have JARJ_s12 : ARJ s12 := ARJ_fm Fs12 ⟨by decide +kernel, by decide +kernel, by decide +kernel, by decide +kernel, by decide +kernel, by decide +kernel, by decide +kernel, by decide +kernel⟩ jARJ
  have JPTJ_s12 : PTJ s12 := PTJ_fm Fs12 (by decide +kernel) jPTJ
  have ws12_0 : iI s12 0 = iI s 0 := fm_iq Fs12 rfl
  have ws12_74 : iI s12 74 = iI s 74 := fm_iq Fs12 rfl
  have ws12_9 : iI s12 9 = iI s 9 := fm_iq Fs12 rfl
  have ws12_90 : iI s12 90 = iI s 90 := fm_iq Fs12 rfl
  have ws12_20 : iI s12 20 = iI s 20 := fm_iq Fs12 rfl
  have ws12_98 : iI s12 98 = iI s 98 := fm_iq Fs12 rfl
  have ws12_70 : iI s12 70 = iI s 70 := fm_iq Fs12 rfl
  have ws12_107 : iI s12 107 = iI s 107 := fm_iq Fs12 rfl
  have ws12_12 : iI s12 12 = iI s 12 := fm_iq Fs12 rfl
  have ws12_89 : iI s12 89 = iI s 89 := fm_iq Fs12 rfl
  show WS k 895 [(0, .ref q1), (1, .ref (A 0)), (2, .ref (A 179)), (3, .ref (A 517)), (4, .int (Int32.ofInt i))] [.int (Int32.ofInt e13)] (Wd A dT s12) (ce + 1) (sl + 6)
  refine z_store X (lv' := [(5, .int (Int32.ofInt e13)), (0, .ref q1), (1, .ref (A 0)), (2, .ref (A 179)), (3, .ref (A 517)), (4, .int (Int32.ofInt i))]) rfl (by decide) (fun _ h => h) (z_aload_n X (x := A 179) rfl (List.Mem.tail _ (List.Mem.tail _ (List.Mem.tail _ (List.Mem.head _)))) (z_aload_n X (x := q1) rfl (List.Mem.tail _ (List.Mem.head _)) (z_load X (x := i) rfl (List.Mem.tail _ (List.Mem.tail _ (List.Mem.tail _ (List.Mem.tail _ (List.Mem.tail _ (List.Mem.head _)))))) (z_const X rfl (z_add X rfl (z_sld X S hL rfl (show 0 ≤ (i + 1) ∧ (i + 1) < (L : Int) by first | exact sx_in hi (by decide) | omega) ?_))))))
  have sr14 : rng (sc xs (i + 1)) := sc_rng
  refine z_callV X 179 (rm := rmN 244) (As := [.int (Int32.ofInt (sc xs (i + 1)))]) (st := []) rfl rfl (by decide) rfl (by rw [E.1, E.2.1, E.2.2.1]; exact k_length G Is12 (by first | exact ⟨sr14.1, sr14.2⟩ | omega)) ⟨by rw [E.2.2.2]; exact (show 7 + 1 ≤ 2048 from oq_4e6106eb), by rw [E.2.2.2]; exact (show 8 + (3 + 11) + 122 ≤ 84000 from oq_38d194b9), by rw [E.2.2.2]; exact (show (ce + 1) + 0 ≤ 601024 by omega), by rw [E.2.2.2]; exact (show (sl + 6) + 0 ≤ 7293034 by omega)⟩ (Nat.le_of_ble_eq_true rfl) (fun vv s15 hq => ?_) (fun ee s15 hq => ?_)
  rotate_left
  · obtain ⟨Is15, Fs15, e16, hv, hrs15, hps15⟩ := hq; cases hv
  obtain ⟨Is15, Fs15, e16, hv, hrs15, hps15⟩ := hq
  cases hv
  have JRLx_s15 : RLx s15 := RLx_fm Fs15 (by decide) JRLx_s12
  have JFEQ_s15 : FEQ s15 := FEQ_fm Fs15 (by decide) JFEQ_s12
  have JRWJ_s15 : RWJ s15 := RWJ_fm Fs15 (by decide +kernel) JRWJ_s12
  have JFTK_s15 : FTK s15 := FTK_fm Fs15 (by decide) JFTK_s12
  have JARJ_s15 : ARJ s15 := ARJ_fm Fs15 ⟨by decide +kernel, by decide +kernel, by decide +kernel, by decide +kernel, by decide +kernel, by decide +kernel, by decide +kernel, by decide +kernel⟩ JARJ_s12
  have JPTJ_s15 : PTJ s15 := PTJ_fm Fs15 (by decide +kernel) JPTJ_s12
  have ws15_0 : iI s15 0 = iI s12 0 := fm_iq Fs15 rfl
  have ws15_74 : iI s15 74 = iI s12 74 := fm_iq Fs15 rfl
  have ws15_9 : iI s15 9 = iI s12 9 := fm_iq Fs15 rfl
  have ws15_90 : iI s15 90 = iI s12 90 := fm_iq Fs15 rfl
  have ws15_20 : iI s15 20 = iI s12 20 := fm_iq Fs15 rfl
  have ws15_98 : iI s15 98 = iI s12 98 := fm_iq Fs15 rfl
  have ws15_70 : iI s15 70 = iI s12 70 := fm_iq Fs15 rfl
  have ws15_107 : iI s15 107 = iI s12 107 := fm_iq Fs15 rfl
  have ws15_12 : iI s15 12 = iI s12 12 := fm_iq Fs15 rfl
  have ws15_89 : iI s15 89 = iI s12 89 := fm_iq Fs15 rfl
  have wos15 : iO s15 = iO s12 := fm_o Fs15 (by decide)
  show WS k 907 [(5, .int (Int32.ofInt e13)), (0, .ref q1), (1, .ref (A 0)), (2, .ref (A 179)), (3, .ref (A 517)), (4, .int (Int32.ofInt i))] [.int (Int32.ofInt e16)] (Wd A dT s15) (ce + 1) (sl + 6)
  refine z_store X (lv' := [(6, .int (Int32.ofInt e16)), (5, .int (Int32.ofInt e13)), (0, .ref q1), (1, .ref (A 0)), (2, .ref (A 179)), (3, .ref (A 517)), (4, .int (Int32.ofInt i))]) rfl (by decide) (fun _ h => h) (z_goto X (t := 1894) rfl rfl (w_widen (ce' := ce + 29) (sl' := sl + 222) (by first | exact Nat.le_add_right _ _ | exact Nat.add_le_add_left (by decide) _ | omega) (by first | exact Nat.le_add_right _ _ | exact Nat.add_le_add_left (by decide) _ | omega) ?_))
  exact WS_lv (lv := [(0, .ref q1), (1, .ref (A 0)), (2, .ref (A 179)), (3, .ref (A 517)), (4, .int (Int32.ofInt i))]) (List.forall_mem_cons.mpr ⟨(List.Mem.tail _ (List.Mem.tail _ (List.Mem.head _))), (List.forall_mem_cons.mpr ⟨(List.Mem.tail _ (List.Mem.tail _ (List.Mem.tail _ (List.Mem.head _)))), (List.forall_mem_cons.mpr ⟨(List.Mem.tail _ (List.Mem.tail _ (List.Mem.tail _ (List.Mem.tail _ (List.Mem.head _))))), (List.forall_mem_cons.mpr ⟨(List.Mem.tail _ (List.Mem.tail _ (List.Mem.tail _ (List.Mem.tail _ (List.Mem.tail _ (List.Mem.head _)))))), (List.forall_mem_cons.mpr ⟨(List.Mem.tail _ (List.Mem.tail _ (List.Mem.tail _ (List.Mem.tail _ (List.Mem.tail _ (List.Mem.tail _ (List.Mem.head _))))))), (fun q h => absurd h List.not_mem_nil)⟩)⟩)⟩)⟩)⟩) (hk A _ Is15 JRLx_s15 JFEQ_s15 JRWJ_s15 JFTK_s15 JARJ_s15 JPTJ_s15 (by first | exact oq_f34933ba ws15_89 ws12_89 p1 b10.1 | omega) (by first | exact oq_d7ce4408 ws15_12 ws12_12 p2 | omega) (by first | exact oq_5bcdc35f ws15_74 ws15_0 ws12_74 ws12_0 p3 | omega) (by first | exact oq_5bcdc35f ws15_90 ws15_9 ws12_90 ws12_9 p4 | omega) (by first | exact oq_5bcdc35f ws15_98 ws15_20 ws12_98 ws12_20 p5 | omega) (by first | exact oq_5bcdc35f ws15_107 ws15_70 ws12_107 ws12_70 p6 | omega))
theorem lc_17 (G : GX l s0 D tys a0 dT) (GR : RS0 s0) (SF : SF0 s0) (GT : TXs0 s0) (GW : TXw0 s0) {k : kx_T} (X : AX k 350 dT) (E : kL k = l ∧ kS0 k = s0 ∧ kD k = D ∧ kR k = room_1) {q1 L : Nat} {xs : Nat → Int32} (S : SX k q1 L xs) (hL : L ≤ 3072) (I : Bd s) (jR : RLx s) (jFEQ : FEQ s) (jRWJ : RWJ s) (jFTK : FTK s) (jARJ : ARJ s) (jPTJ : PTJ s) (p1 : iI s 89 = 1) (p2 : iI s 12 ≤ 8) (p3 : iI s 0 = iI s 74) (p4 : iI s 9 = iI s 90) (p5 : iI s 20 = iI s 98) (p6 : iI s 70 = iI s 107) {i : Int} (hi : 0 ≤ i ∧ i + 6 ≤ (L : Int)) {ce sl : Nat} (hce : ce + 29 ≤ 601024) (hsl : sl + 222 ≤ 7293034) (hk : ∀ (A : Nat → Nat) (t : PS), Bd t → RLx t → FEQ t → RWJ t → FTK t → ARJ t → PTJ t → iI t 89 = 1 → iI t 12 ≤ 8 → iI t 0 = iI t 74 → iI t 9 = iI t 90 → iI t 20 = iI t 98 → iI t 70 = iI t 107 → WS k 1894 [(0, .ref q1), (1, .ref (A 0)), (2, .ref (A 179)), (3, .ref (A 517)), (4, .int (Int32.ofInt i))] [] (Wd A dT t) (ce + 29) (sl + 222)) : WS k 912 [(0, .ref q1), (1, .ref (A 0)), (2, .ref (A 179)), (3, .ref (A 517)), (4, .int (Int32.ofInt i))] [] (Wd A dT s) ce sl := by
  have F : Fm [73] [1460, 202, 204, 205, 206, 207, 208, 209, 210, 211, 212, 213, 214, 215, 216, 217, 218, 219, 220, 221, 222, 223, 224, 225, 226, 227, 203] s s := fm_rf _ _ s
  have b1 := bi_0 I
  have b2 := bi_74 I
  have b3 := bi_9 I
  have b4 := bi_90 I
  have b5 := bi_20 I
  have b6 := bi_98 I
  have b7 := bi_70 I
  have b8 := bi_107 I
  have b9 := bi_12 I
  have b10 := bi_89 I
  refine z_aload_n X (x := A 0) rfl (List.Mem.tail _ (List.Mem.head _)) (z_aload_n X (x := q1) rfl (List.Mem.head _) (z_load X (x := i) rfl (List.Mem.tail _ (List.Mem.tail _ (List.Mem.tail _ (List.Mem.tail _ (List.Mem.head _))))) (z_const X rfl (z_add X rfl (z_sld X S hL rfl (show 0 ≤ (i + 1) ∧ (i + 1) < (L : Int) by first | exact sx_in hi (by decide) | omega) ?_)))))
  have sr11 : rng (sc xs (i + 1)) := sc_rng
  refine z_aload_n X (x := A 517) rfl (List.Mem.tail _ (List.Mem.tail _ (List.Mem.tail _ (List.Mem.head _)))) (z_callL X (rm := rmN 329) (As := [.ref (A 0), .int (Int32.ofInt (sc xs (i + 1))), .ref (A 517)]) (st := []) rfl (by decide) rfl (by rw [E.1, E.2.1, E.2.2.1]; exact lw_edge G I (by omega)) ⟨by rw [E.2.2.2]; exact (show 9 + 1 ≤ 2048 by decide), by rw [E.2.2.2]; exact (show 8 + (4 + 11) + 173 ≤ 84000 by decide), by rw [E.2.2.2]; exact (show ce + 1 ≤ 601024 by first | exact rmo_1 hce (by decide) | exact rmo_2 hce (by decide) | omega), by rw [E.2.2.2]; exact (show sl + 6 ≤ 7293034 by first | exact rmo_1 hsl (by decide) | exact rmo_2 hsl (by decide) | omega)⟩ (Nat.le_of_ble_eq_true rfl) (fun vv A s12 hA2 hq => ?_) (fun ee A s12 hA2 hq => ?_))
  rotate_left
  · obtain ⟨Is12, Fs12, e13, hv, hrs12, hps12⟩ := hq; cases hv
  obtain ⟨Is12, Fs12, e13, hv, hrs12, hps12⟩ := hq
  cases hv
  rw [← hA2 0 (by decide)]
  rw [← hA2 179 (by decide)]
  rw [← hA2 517 (by decide)]
  have JRLx_s12 : RLx s12 := RLx_fm Fs12 (by decide) jR
  have JFEQ_s12 : FEQ s12 := FEQ_fm Fs12 (by decide) jFEQ
  have JRWJ_s12 : RWJ s12 := RWJ_fm Fs12 (by decide +kernel) jRWJ
  have JFTK_s12 : FTK s12 := FTK_fm Fs12 (by decide) jFTK
  have JARJ_s12 : ARJ s12 := ARJ_fm Fs12 ⟨by decide +kernel, by decide +kernel, by decide +kernel, by decide +kernel, by decide +kernel, by decide +kernel, by decide +kernel, by decide +kernel⟩ jARJ
  have JPTJ_s12 : PTJ s12 := PTJ_fm Fs12 (by decide +kernel) jPTJ
  have ws12_0 : iI s12 0 = iI s 0 := fm_iq Fs12 rfl
  have ws12_74 : iI s12 74 = iI s 74 := fm_iq Fs12 rfl
  have ws12_9 : iI s12 9 = iI s 9 := fm_iq Fs12 rfl
  have ws12_90 : iI s12 90 = iI s 90 := fm_iq Fs12 rfl
  have ws12_20 : iI s12 20 = iI s 20 := fm_iq Fs12 rfl
  have ws12_98 : iI s12 98 = iI s 98 := fm_iq Fs12 rfl
  have ws12_70 : iI s12 70 = iI s 70 := fm_iq Fs12 rfl
  have ws12_107 : iI s12 107 = iI s 107 := fm_iq Fs12 rfl
  have ws12_12 : iI s12 12 = iI s 12 := fm_iq Fs12 rfl
  have ws12_89 : iI s12 89 = iI s 89 := fm_iq Fs12 rfl
  show WS k 923 [(0, .ref q1), (1, .ref (A 0)), (2, .ref (A 179)), (3, .ref (A 517)), (4, .int (Int32.ofInt i))] [.int (Int32.ofInt e13)] (Wd A dT s12) (ce + 1) (sl + 6)
  refine z_store X (lv' := [(5, .int (Int32.ofInt e13)), (0, .ref q1), (1, .ref (A 0)), (2, .ref (A 179)), (3, .ref (A 517)), (4, .int (Int32.ofInt i))]) rfl (by decide) (fun _ h => h) (z_aload_n X (x := A 179) rfl (List.Mem.tail _ (List.Mem.tail _ (List.Mem.tail _ (List.Mem.head _)))) (z_aload_n X (x := q1) rfl (List.Mem.tail _ (List.Mem.head _)) (z_load X (x := i) rfl (List.Mem.tail _ (List.Mem.tail _ (List.Mem.tail _ (List.Mem.tail _ (List.Mem.tail _ (List.Mem.head _)))))) (z_const X rfl (z_add X rfl (z_sld X S hL rfl (show 0 ≤ (i + 1) ∧ (i + 1) < (L : Int) by first | exact sx_in hi (by decide) | omega) ?_))))))
  have sr14 : rng (sc xs (i + 1)) := sc_rng
  refine z_callV X 179 (rm := rmN 246) (As := [.int (Int32.ofInt (sc xs (i + 1)))]) (st := []) rfl rfl (by decide) rfl (by rw [E.1, E.2.1, E.2.2.1]; exact k_edge G Is12 JRLx_s12 (by first | exact ⟨sr14.1, sr14.2⟩ | omega)) ⟨by rw [E.2.2.2]; exact (show 11 + 1 ≤ 2048 from oq_dd1cdbfa), by rw [E.2.2.2]; exact (show 8 + (6 + 11) + 212 ≤ 84000 from oq_c1432001), by rw [E.2.2.2]; exact (show (ce + 1) + 0 ≤ 601024 by omega), by rw [E.2.2.2]; exact (show (sl + 6) + 0 ≤ 7293034 by omega)⟩ (Nat.le_of_ble_eq_true rfl) (fun vv s15 hq => ?_) (fun ee s15 hq => ?_)
  rotate_left
  · obtain ⟨Is15, Fs15, JRLx_s15, e16, hv, hrs15, hps15⟩ := hq; cases hv
  obtain ⟨Is15, Fs15, JRLx_s15, e16, hv, hrs15, hps15⟩ := hq
  cases hv
  have JRLx_s15 : RLx s15 := RLx_fm Fs15 (by decide) JRLx_s12
  have JFEQ_s15 : FEQ s15 := FEQ_fm Fs15 (by decide) JFEQ_s12
  have JRWJ_s15 : RWJ s15 := RWJ_fm Fs15 (by decide +kernel) JRWJ_s12
  have JFTK_s15 : FTK s15 := FTK_fm Fs15 (by decide) JFTK_s12
  have JARJ_s15 : ARJ s15 := ARJ_fm Fs15 ⟨by decide +kernel, by decide +kernel, by decide +kernel, by decide +kernel, by decide +kernel, by decide +kernel, by decide +kernel, by decide +kernel⟩ JARJ_s12
  have JPTJ_s15 : PTJ s15 := PTJ_fm Fs15 (by decide +kernel) JPTJ_s12
  have ws15_0 : iI s15 0 = iI s12 0 := fm_iq Fs15 rfl
  have ws15_74 : iI s15 74 = iI s12 74 := fm_iq Fs15 rfl
  have ws15_9 : iI s15 9 = iI s12 9 := fm_iq Fs15 rfl
  have ws15_90 : iI s15 90 = iI s12 90 := fm_iq Fs15 rfl
  have ws15_20 : iI s15 20 = iI s12 20 := fm_iq Fs15 rfl
  have ws15_98 : iI s15 98 = iI s12 98 := fm_iq Fs15 rfl
  have ws15_70 : iI s15 70 = iI s12 70 := fm_iq Fs15 rfl
  have ws15_107 : iI s15 107 = iI s12 107 := fm_iq Fs15 rfl
  have ws15_12 : iI s15 12 = iI s12 12 := fm_iq Fs15 rfl
  have ws15_89 : iI s15 89 = iI s12 89 := fm_iq Fs15 rfl
  have wos15 : iO s15 = iO s12 := fm_o Fs15 (by decide)
  show WS k 935 [(5, .int (Int32.ofInt e13)), (0, .ref q1), (1, .ref (A 0)), (2, .ref (A 179)), (3, .ref (A 517)), (4, .int (Int32.ofInt i))] [.int (Int32.ofInt e16)] (Wd A dT s15) (ce + 1) (sl + 6)
  refine z_store X (lv' := [(6, .int (Int32.ofInt e16)), (5, .int (Int32.ofInt e13)), (0, .ref q1), (1, .ref (A 0)), (2, .ref (A 179)), (3, .ref (A 517)), (4, .int (Int32.ofInt i))]) rfl (by decide) (fun _ h => h) (z_goto X (t := 1894) rfl rfl (w_widen (ce' := ce + 29) (sl' := sl + 222) (by first | exact Nat.le_add_right _ _ | exact Nat.add_le_add_left (by decide) _ | omega) (by first | exact Nat.le_add_right _ _ | exact Nat.add_le_add_left (by decide) _ | omega) ?_))
  exact WS_lv (lv := [(0, .ref q1), (1, .ref (A 0)), (2, .ref (A 179)), (3, .ref (A 517)), (4, .int (Int32.ofInt i))]) (List.forall_mem_cons.mpr ⟨(List.Mem.tail _ (List.Mem.tail _ (List.Mem.head _))), (List.forall_mem_cons.mpr ⟨(List.Mem.tail _ (List.Mem.tail _ (List.Mem.tail _ (List.Mem.head _)))), (List.forall_mem_cons.mpr ⟨(List.Mem.tail _ (List.Mem.tail _ (List.Mem.tail _ (List.Mem.tail _ (List.Mem.head _))))), (List.forall_mem_cons.mpr ⟨(List.Mem.tail _ (List.Mem.tail _ (List.Mem.tail _ (List.Mem.tail _ (List.Mem.tail _ (List.Mem.head _)))))), (List.forall_mem_cons.mpr ⟨(List.Mem.tail _ (List.Mem.tail _ (List.Mem.tail _ (List.Mem.tail _ (List.Mem.tail _ (List.Mem.tail _ (List.Mem.head _))))))), (fun q h => absurd h List.not_mem_nil)⟩)⟩)⟩)⟩)⟩) (hk A _ Is15 JRLx_s15 JFEQ_s15 JRWJ_s15 JFTK_s15 JARJ_s15 JPTJ_s15 (by first | exact oq_f34933ba ws15_89 ws12_89 p1 b10.1 | omega) (by first | exact oq_d7ce4408 ws15_12 ws12_12 p2 | omega) (by first | exact oq_5bcdc35f ws15_74 ws15_0 ws12_74 ws12_0 p3 | omega) (by first | exact oq_5bcdc35f ws15_90 ws15_9 ws12_90 ws12_9 p4 | omega) (by first | exact oq_5bcdc35f ws15_98 ws15_20 ws12_98 ws12_20 p5 | omega) (by first | exact oq_5bcdc35f ws15_107 ws15_70 ws12_107 ws12_70 p6 | omega))
theorem lc_18 (G : GX l s0 D tys a0 dT) (GR : RS0 s0) (SF : SF0 s0) (GT : TXs0 s0) (GW : TXw0 s0) {k : kx_T} (X : AX k 350 dT) (E : kL k = l ∧ kS0 k = s0 ∧ kD k = D ∧ kR k = room_1) {q1 L : Nat} {xs : Nat → Int32} (S : SX k q1 L xs) (hL : L ≤ 3072) (I : Bd s) (jR : RLx s) (jFEQ : FEQ s) (jRWJ : RWJ s) (jFTK : FTK s) (jARJ : ARJ s) (jPTJ : PTJ s) (p1 : iI s 89 = 1) (p2 : iI s 12 ≤ 8) (p3 : iI s 0 = iI s 74) (p4 : iI s 9 = iI s 90) (p5 : iI s 20 = iI s 98) (p6 : iI s 70 = iI s 107) {i : Int} (hi : 0 ≤ i ∧ i + 6 ≤ (L : Int)) {ce sl : Nat} (hce : ce + 29 ≤ 601024) (hsl : sl + 222 ≤ 7293034) (hk : ∀ (A : Nat → Nat) (t : PS), Bd t → RLx t → FEQ t → RWJ t → FTK t → ARJ t → PTJ t → iI t 89 = 1 → iI t 12 ≤ 8 → iI t 0 = iI t 74 → iI t 9 = iI t 90 → iI t 20 = iI t 98 → iI t 70 = iI t 107 → WS k 1894 [(0, .ref q1), (1, .ref (A 0)), (2, .ref (A 179)), (3, .ref (A 517)), (4, .int (Int32.ofInt i))] [] (Wd A dT t) (ce + 29) (sl + 222)) : WS k 940 [(0, .ref q1), (1, .ref (A 0)), (2, .ref (A 179)), (3, .ref (A 517)), (4, .int (Int32.ofInt i))] [] (Wd A dT s) ce sl := by
  have F : Fm [22, 23, 24, 73, 77, 75, 78, 79, 80, 81] [33, 26, 27, 28, 29, 30, 31, 32, 20, 202, 204, 205, 206, 207, 208, 209, 210, 211, 212, 213, 214, 215, 216, 217, 218, 219, 220, 221, 222, 223, 224, 225, 226, 227, 203, 161, 230, 231, 232] s s := fm_rf _ _ s
  have b1 := bi_0 I
  have b2 := bi_74 I
  have b3 := bi_9 I
  have b4 := bi_90 I
  have b5 := bi_20 I
  have b6 := bi_98 I
  have b7 := bi_70 I
  have b8 := bi_107 I
  have b9 := bi_12 I
  have b10 := bi_89 I
  refine z_aload_n X (x := A 0) rfl (List.Mem.tail _ (List.Mem.head _)) ?_
  obtain ⟨U, hU1, hU2, hU3⟩ := air_U jARJ.2.2.2.2.2.1 jARJ.1 jARJ.2.1 jARJ.2.2.1 jARJ.2.2.2.2.1 jARJ.2.2.2.2.2.2.2 (by omega) (by omega)
  refine z_callV X 0 (rm := rmN 153) (As := []) (st := []) rfl rfl (by decide) rfl (by rw [E.1, E.2.1, E.2.2.1]; exact cs_holds6 G I jARJ.2.2.2.2.2.1 jARJ.2.2.2.2.2.2.1 hU1 jPTJ.1 ) ⟨by rw [E.2.2.2]; exact (show 11 + 1 ≤ 2048 from oq_dd1cdbfa), by rw [E.2.2.2]; exact (show 8 + (2 + 11) + 224 ≤ 84000 from oq_b95bb2bf), by rw [E.2.2.2]; exact (show ce + 0 ≤ 601024 by omega), by rw [E.2.2.2]; exact (show sl + 0 ≤ 7293034 by omega)⟩ (Nat.le_of_ble_eq_true rfl) (fun vv s11 hq => ?_) (fun ee s11 hq => ?_)
  rotate_left
  · obtain ⟨Is11, Fs11, e12, hv, hrs11, hps11⟩ := hq; cases hv
  obtain ⟨Is11, Fs11, e12, hv, hrs11, hps11⟩ := hq
  have hps11p := hps11.2
  cases hv
  have JRLx_s11 : RLx s11 := RLx_fm Fs11 (by decide) jR
  have JFEQ_s11 : FEQ s11 := FEQ_fm Fs11 (by decide) jFEQ
  have JRWJ_s11 : RWJ s11 := RWJ_fm Fs11 (by decide +kernel) jRWJ
  have JFTK_s11 : FTK s11 := FTK_fm Fs11 (by decide) jFTK
  have JARJ_s11 : ARJ s11 := ARJ_fm Fs11 ⟨by decide +kernel, by decide +kernel, by decide +kernel, by decide +kernel, by decide +kernel, by decide +kernel, by decide +kernel, by decide +kernel⟩ jARJ
  have JPTJ_s11 : PTJ s11 := PTJ_fm Fs11 (by decide +kernel) jPTJ
  have JMDJ_s11 : MDJ U s11 := MDJ_fm Fs11 (by decide +kernel) hU2
  have ws11_0 : iI s11 0 = iI s 0 := fm_iq Fs11 rfl
  have ws11_74 : iI s11 74 = iI s 74 := fm_iq Fs11 rfl
  have ws11_9 : iI s11 9 = iI s 9 := fm_iq Fs11 rfl
  have ws11_90 : iI s11 90 = iI s 90 := fm_iq Fs11 rfl
  have ws11_20 : iI s11 20 = iI s 20 := fm_iq Fs11 rfl
  have ws11_98 : iI s11 98 = iI s 98 := fm_iq Fs11 rfl
  have ws11_70 : iI s11 70 = iI s 70 := fm_iq Fs11 rfl
  have ws11_107 : iI s11 107 = iI s 107 := fm_iq Fs11 rfl
  have ws11_12 : iI s11 12 = iI s 12 := fm_iq Fs11 rfl
  have ws11_89 : iI s11 89 = iI s 89 := fm_iq Fs11 rfl
  have wos11 : iO s11 = iO s := fm_o Fs11 (by decide)
  show WS k 944 [(0, .ref q1), (1, .ref (A 0)), (2, .ref (A 179)), (3, .ref (A 517)), (4, .int (Int32.ofInt i))] [.int (Int32.ofInt e12)] (Wd A dT s11) ce sl
  refine w_pop X.1 (ax_d X (show cdA 350 944 = some (.pop, 1, 0, 0, 0) from rfl)) rfl (z_aload_n X (x := A 179) rfl (List.Mem.tail _ (List.Mem.tail _ (List.Mem.head _))) (z_callV X 179 (rm := rmN 247) (As := []) (st := []) rfl rfl (by decide) rfl (by rw [E.1, E.2.1, E.2.2.1]; exact k_holds6 G Is11 JRLx_s11 JMDJ_s11 (by first | exact oq_b44a1c7f ws11_89 p1 b10.1 | omega)) ⟨by rw [E.2.2.2]; exact (show 39 + 1 ≤ 2048 from oq_dead3895), by rw [E.2.2.2]; exact (show 8 + (2 + 11) + 1622 ≤ 84000 from oq_2450e786), by rw [E.2.2.2]; exact (show ce + 0 ≤ 601024 by first | (clear hps11; omega) | omega), by rw [E.2.2.2]; exact (show sl + 0 ≤ 7293034 by first | (clear hps11; omega) | omega)⟩ (Nat.le_of_ble_eq_true rfl) (fun vv s13 hq => ?_) (fun ee s13 hq => ?_)))
  rotate_left
  · obtain ⟨Is13, Fs13, JRLx_s13, e14, hv, hrs13, hps13⟩ := hq; cases hv
  obtain ⟨Is13, Fs13, JRLx_s13, e14, hv, hrs13, hps13⟩ := hq
  have hps13p := And.intro hps13.2.1 (hps13.2.2)
  cases hv
  have JRLx_s13 : RLx s13 := RLx_fm Fs13 (by decide) JRLx_s11
  have JFEQ_s13 : FEQ s13 := FEQ_fm Fs13 (by decide) JFEQ_s11
  have JRWJ_s13 : RWJ s13 := RWJ_fm Fs13 (by decide +kernel) JRWJ_s11
  have JFTK_s13 : FTK s13 := FTK_fm Fs13 (by decide) JFTK_s11
  have JARJ_s13 : ARJ s13 := ARJ_fm Fs13 ⟨by decide +kernel, by decide +kernel, by decide +kernel, by decide +kernel, by decide +kernel, by decide +kernel, by decide +kernel, by decide +kernel⟩ JARJ_s11
  have JPTJ_s13 : PTJ s13 := PTJ_fm Fs13 (by decide +kernel) JPTJ_s11
  have ws13_0 : iI s13 0 = iI s11 0 := fm_iq Fs13 rfl
  have ws13_74 : iI s13 74 = iI s11 74 := fm_iq Fs13 rfl
  have ws13_9 : iI s13 9 = iI s11 9 := fm_iq Fs13 rfl
  have ws13_90 : iI s13 90 = iI s11 90 := fm_iq Fs13 rfl
  have ws13_20 : iI s13 20 = iI s11 20 := fm_iq Fs13 rfl
  have ws13_98 : iI s13 98 = iI s11 98 := fm_iq Fs13 rfl
  have ws13_70 : iI s13 70 = iI s11 70 := fm_iq Fs13 rfl
  have ws13_107 : iI s13 107 = iI s11 107 := fm_iq Fs13 rfl
  have ws13_12 : iI s13 12 = iI s11 12 := fm_iq Fs13 rfl
  have ws13_89 : iI s13 89 = iI s11 89 := fm_iq Fs13 rfl
  have wos13 : iO s13 = iO s11 := fm_o Fs13 (by decide)
  show WS k 949 [(0, .ref q1), (1, .ref (A 0)), (2, .ref (A 179)), (3, .ref (A 517)), (4, .int (Int32.ofInt i))] [.int (Int32.ofInt e14)] (Wd A dT s13) ce sl
  have cc := hps11
  ·
    have mm := hps13
    ·
      have rq15 := hle_eq (fun j hj => (jPTJ.2.1 j hj).trans ((sam_fm Fs11 (by decide +kernel) : SAM 228 _ _) j).symm) (fun j hj => (jPTJ.2.2.1 j hj).trans ((sam_fm Fs11 (by decide +kernel) : SAM 229 _ _) j).symm) cc.2 mm.2.2
      refine w_pop X.1 (ax_d X (show cdA 350 949 = some (.pop, 1, 0, 0, 0) from rfl)) rfl (z_goto X (t := 1894) rfl rfl (w_widen (ce' := ce + 29) (sl' := sl + 222) (by first | exact Nat.le_add_right _ _ | exact Nat.add_le_add_left (by decide) _ | omega) (by first | exact Nat.le_add_right _ _ | exact Nat.add_le_add_left (by decide) _ | omega) ?_))
      exact WS_lv (lv := [(0, .ref q1), (1, .ref (A 0)), (2, .ref (A 179)), (3, .ref (A 517)), (4, .int (Int32.ofInt i))]) (List.forall_mem_cons.mpr ⟨(List.Mem.head _), (List.forall_mem_cons.mpr ⟨(List.Mem.tail _ (List.Mem.head _)), (List.forall_mem_cons.mpr ⟨(List.Mem.tail _ (List.Mem.tail _ (List.Mem.head _))), (List.forall_mem_cons.mpr ⟨(List.Mem.tail _ (List.Mem.tail _ (List.Mem.tail _ (List.Mem.head _)))), (List.forall_mem_cons.mpr ⟨(List.Mem.tail _ (List.Mem.tail _ (List.Mem.tail _ (List.Mem.tail _ (List.Mem.head _))))), (fun q h => absurd h List.not_mem_nil)⟩)⟩)⟩)⟩)⟩) (hk A _ Is13 JRLx_s13 JFEQ_s13 JRWJ_s13 JFTK_s13 JARJ_s13 JPTJ_s13 (by first | exact oq_f34933ba ws13_89 ws11_89 p1 b10.1 | omega) (by first | exact oq_d7ce4408 ws13_12 ws11_12 p2 | omega) (by first | exact oq_5bcdc35f ws13_74 ws13_0 ws11_74 ws11_0 p3 | omega) (by first | exact oq_5bcdc35f ws13_90 ws13_9 ws11_90 ws11_9 p4 | omega) (by first | exact oq_5bcdc35f ws13_98 ws13_20 ws11_98 ws11_20 p5 | omega) (by first | exact oq_5bcdc35f ws13_107 ws13_70 ws11_107 ws11_70 p6 | omega))
theorem lc_19 (G : GX l s0 D tys a0 dT) (GR : RS0 s0) (SF : SF0 s0) (GT : TXs0 s0) (GW : TXw0 s0) {k : kx_T} (X : AX k 350 dT) (E : kL k = l ∧ kS0 k = s0 ∧ kD k = D ∧ kR k = room_1) {q1 L : Nat} {xs : Nat → Int32} (S : SX k q1 L xs) (hL : L ≤ 3072) (I : Bd s) (jR : RLx s) (jFEQ : FEQ s) (jRWJ : RWJ s) (jFTK : FTK s) (jARJ : ARJ s) (jPTJ : PTJ s) (p1 : iI s 89 = 1) (p2 : iI s 12 ≤ 8) (p3 : iI s 0 = iI s 74) (p4 : iI s 9 = iI s 90) (p5 : iI s 20 = iI s 98) (p6 : iI s 70 = iI s 107) {i : Int} (hi : 0 ≤ i ∧ i + 6 ≤ (L : Int)) {ce sl : Nat} (hce : ce + 29 ≤ 601024) (hsl : sl + 222 ≤ 7293034) (hk : ∀ (A : Nat → Nat) (t : PS), Bd t → RLx t → FEQ t → RWJ t → FTK t → ARJ t → PTJ t → iI t 89 = 1 → iI t 12 ≤ 8 → iI t 0 = iI t 74 → iI t 9 = iI t 90 → iI t 20 = iI t 98 → iI t 70 = iI t 107 → WS k 1894 [(0, .ref q1), (1, .ref (A 0)), (2, .ref (A 179)), (3, .ref (A 517)), (4, .int (Int32.ofInt i))] [] (Wd A dT t) (ce + 29) (sl + 222)) : WS k 953 [(0, .ref q1), (1, .ref (A 0)), (2, .ref (A 179)), (3, .ref (A 517)), (4, .int (Int32.ofInt i))] [] (Wd A dT s) ce sl := by
  have F : Fm [22, 23, 24, 73, 77, 75, 78, 79, 80, 81] [33, 26, 27, 28, 29, 30, 31, 32, 20, 36, 37, 35, 202, 204, 205, 206, 207, 208, 209, 210, 211, 212, 213, 214, 215, 216, 217, 218, 219, 220, 221, 222, 223, 224, 225, 226, 227, 203, 161, 230, 233] s s := fm_rf _ _ s
  have b1 := bi_0 I
  have b2 := bi_74 I
  have b3 := bi_9 I
  have b4 := bi_90 I
  have b5 := bi_20 I
  have b6 := bi_98 I
  have b7 := bi_70 I
  have b8 := bi_107 I
  have b9 := bi_12 I
  have b10 := bi_89 I
  refine z_aload_n X (x := A 0) rfl (List.Mem.tail _ (List.Mem.head _)) ?_
  obtain ⟨U, hU1, hU2, hU3⟩ := air_U jARJ.2.2.2.2.2.1 jARJ.1 jARJ.2.1 jARJ.2.2.1 jARJ.2.2.2.2.1 jARJ.2.2.2.2.2.2.2 (by omega) (by omega)
  refine z_callV X 0 (rm := rmN 154) (As := []) (st := []) rfl rfl (by decide) rfl (by rw [E.1, E.2.1, E.2.2.1]; exact cs_cost6 G I jARJ.2.2.2.2.2.1 jARJ.2.2.2.2.2.2.1 hU1 jPTJ.1 ) ⟨by rw [E.2.2.2]; exact (show 12 + 1 ≤ 2048 from oq_f781d9f4), by rw [E.2.2.2]; exact (show 8 + (1 + 11) + 237 ≤ 84000 from oq_d9c24595), by rw [E.2.2.2]; exact (show ce + 0 ≤ 601024 by omega), by rw [E.2.2.2]; exact (show sl + 0 ≤ 7293034 by omega)⟩ (Nat.le_of_ble_eq_true rfl) (fun vv s11 hq => ?_) (fun ee s11 hq => ?_)
  rotate_left
  · obtain ⟨Is11, Fs11, e12, hv, hrs11, hps11⟩ := hq; cases hv
  obtain ⟨Is11, Fs11, e12, hv, hrs11, hps11⟩ := hq
  cases hv
  have JRLx_s11 : RLx s11 := RLx_fm Fs11 (by decide) jR
  have JFEQ_s11 : FEQ s11 := FEQ_fm Fs11 (by decide) jFEQ
  have JRWJ_s11 : RWJ s11 := RWJ_fm Fs11 (by decide +kernel) jRWJ
  have JFTK_s11 : FTK s11 := FTK_fm Fs11 (by decide) jFTK
  have JARJ_s11 : ARJ s11 := ARJ_fm Fs11 ⟨by decide +kernel, by decide +kernel, by decide +kernel, by decide +kernel, by decide +kernel, by decide +kernel, by decide +kernel, by decide +kernel⟩ jARJ
  have JPTJ_s11 : PTJ s11 := PTJ_fm Fs11 (by decide +kernel) jPTJ
  have JMDJ_s11 : MDJ U s11 := MDJ_fm Fs11 (by decide +kernel) hU2
  have ws11_0 : iI s11 0 = iI s 0 := fm_iq Fs11 rfl
  have ws11_74 : iI s11 74 = iI s 74 := fm_iq Fs11 rfl
  have ws11_9 : iI s11 9 = iI s 9 := fm_iq Fs11 rfl
  have ws11_90 : iI s11 90 = iI s 90 := fm_iq Fs11 rfl
  have ws11_20 : iI s11 20 = iI s 20 := fm_iq Fs11 rfl
  have ws11_98 : iI s11 98 = iI s 98 := fm_iq Fs11 rfl
  have ws11_70 : iI s11 70 = iI s 70 := fm_iq Fs11 rfl
  have ws11_107 : iI s11 107 = iI s 107 := fm_iq Fs11 rfl
  have ws11_12 : iI s11 12 = iI s 12 := fm_iq Fs11 rfl
  have ws11_89 : iI s11 89 = iI s 89 := fm_iq Fs11 rfl
  have wos11 : iO s11 = iO s := fm_o Fs11 (by decide)
  show WS k 957 [(0, .ref q1), (1, .ref (A 0)), (2, .ref (A 179)), (3, .ref (A 517)), (4, .int (Int32.ofInt i))] [.int (Int32.ofInt e12)] (Wd A dT s11) ce sl
  refine w_pop X.1 (ax_d X (show cdA 350 957 = some (.pop, 1, 0, 0, 0) from rfl)) rfl (z_aload_n X (x := A 179) rfl (List.Mem.tail _ (List.Mem.tail _ (List.Mem.head _))) (z_callV X 179 (rm := rmN 253) (As := []) (st := []) rfl rfl (by decide) rfl (by rw [E.1, E.2.1, E.2.2.1]; exact k_cost6 G Is11 JRLx_s11 JMDJ_s11 (by first | exact oq_b44a1c7f ws11_89 p1 b10.1 | omega)) ⟨by rw [E.2.2.2]; exact (show 41 + 1 ≤ 2048 from oq_2c2f0271), by rw [E.2.2.2]; exact (show 8 + (1 + 11) + 1663 ≤ 84000 from oq_260410fd), by rw [E.2.2.2]; exact (show ce + 0 ≤ 601024 by omega), by rw [E.2.2.2]; exact (show sl + 0 ≤ 7293034 by omega)⟩ (Nat.le_of_ble_eq_true rfl) (fun vv s13 hq => ?_) (fun ee s13 hq => ?_)))
  rotate_left
  · obtain ⟨Is13, Fs13, JRLx_s13, e14, hv, hrs13, hps13⟩ := hq; cases hv
  obtain ⟨Is13, Fs13, JRLx_s13, e14, hv, hrs13, hps13⟩ := hq
  cases hv
  have JRLx_s13 : RLx s13 := RLx_fm Fs13 (by decide) JRLx_s11
  have JFEQ_s13 : FEQ s13 := FEQ_fm Fs13 (by decide) JFEQ_s11
  have JRWJ_s13 : RWJ s13 := RWJ_fm Fs13 (by decide +kernel) JRWJ_s11
  have JFTK_s13 : FTK s13 := FTK_fm Fs13 (by decide) JFTK_s11
  have JARJ_s13 : ARJ s13 := ARJ_fm Fs13 ⟨by decide +kernel, by decide +kernel, by decide +kernel, by decide +kernel, by decide +kernel, by decide +kernel, by decide +kernel, by decide +kernel⟩ JARJ_s11
  have JPTJ_s13 : PTJ s13 := PTJ_fm Fs13 (by decide +kernel) JPTJ_s11
  have ws13_0 : iI s13 0 = iI s11 0 := fm_iq Fs13 rfl
  have ws13_74 : iI s13 74 = iI s11 74 := fm_iq Fs13 rfl
  have ws13_9 : iI s13 9 = iI s11 9 := fm_iq Fs13 rfl
  have ws13_90 : iI s13 90 = iI s11 90 := fm_iq Fs13 rfl
  have ws13_20 : iI s13 20 = iI s11 20 := fm_iq Fs13 rfl
  have ws13_98 : iI s13 98 = iI s11 98 := fm_iq Fs13 rfl
  have ws13_70 : iI s13 70 = iI s11 70 := fm_iq Fs13 rfl
  have ws13_107 : iI s13 107 = iI s11 107 := fm_iq Fs13 rfl
  have ws13_12 : iI s13 12 = iI s11 12 := fm_iq Fs13 rfl
  have ws13_89 : iI s13 89 = iI s11 89 := fm_iq Fs13 rfl
  have wos13 : iO s13 = iO s11 := fm_o Fs13 (by decide)
  show WS k 962 [(0, .ref q1), (1, .ref (A 0)), (2, .ref (A 179)), (3, .ref (A 517)), (4, .int (Int32.ofInt i))] [.int (Int32.ofInt e14)] (Wd A dT s13) ce sl
  have cc := hps11
  ·
    have mm := hps13
    ·
      have rq15 := cst_eq (u_wok jARJ.2.2.2.2.2.1 hU1) (fun j hj => (jPTJ.2.1 j hj).trans ((sam_fm Fs11 (by decide +kernel) : SAM 228 _ _) j).symm) cc mm.1
      refine w_pop X.1 (ax_d X (show cdA 350 962 = some (.pop, 1, 0, 0, 0) from rfl)) rfl (z_goto X (t := 1894) rfl rfl (w_widen (ce' := ce + 29) (sl' := sl + 222) (by first | exact Nat.le_add_right _ _ | exact Nat.add_le_add_left (by decide) _ | omega) (by first | exact Nat.le_add_right _ _ | exact Nat.add_le_add_left (by decide) _ | omega) ?_))
      exact WS_lv (lv := [(0, .ref q1), (1, .ref (A 0)), (2, .ref (A 179)), (3, .ref (A 517)), (4, .int (Int32.ofInt i))]) (List.forall_mem_cons.mpr ⟨(List.Mem.head _), (List.forall_mem_cons.mpr ⟨(List.Mem.tail _ (List.Mem.head _)), (List.forall_mem_cons.mpr ⟨(List.Mem.tail _ (List.Mem.tail _ (List.Mem.head _))), (List.forall_mem_cons.mpr ⟨(List.Mem.tail _ (List.Mem.tail _ (List.Mem.tail _ (List.Mem.head _)))), (List.forall_mem_cons.mpr ⟨(List.Mem.tail _ (List.Mem.tail _ (List.Mem.tail _ (List.Mem.tail _ (List.Mem.head _))))), (fun q h => absurd h List.not_mem_nil)⟩)⟩)⟩)⟩)⟩) (hk A _ Is13 JRLx_s13 JFEQ_s13 JRWJ_s13 JFTK_s13 JARJ_s13 JPTJ_s13 (by first | exact oq_f34933ba ws13_89 ws11_89 p1 b10.1 | omega) (by first | exact oq_d7ce4408 ws13_12 ws11_12 p2 | omega) (by first | exact oq_5bcdc35f ws13_74 ws13_0 ws11_74 ws11_0 p3 | omega) (by first | exact oq_5bcdc35f ws13_90 ws13_9 ws11_90 ws11_9 p4 | omega) (by first | exact oq_5bcdc35f ws13_98 ws13_20 ws11_98 ws11_20 p5 | omega) (by first | exact oq_5bcdc35f ws13_107 ws13_70 ws11_107 ws11_70 p6 | omega))
theorem lc_20 (G : GX l s0 D tys a0 dT) (GR : RS0 s0) (SF : SF0 s0) (GT : TXs0 s0) (GW : TXw0 s0) {k : kx_T} (X : AX k 350 dT) (E : kL k = l ∧ kS0 k = s0 ∧ kD k = D ∧ kR k = room_1) {q1 L : Nat} {xs : Nat → Int32} (S : SX k q1 L xs) (hL : L ≤ 3072) (I : Bd s) (jR : RLx s) (jFEQ : FEQ s) (jRWJ : RWJ s) (jFTK : FTK s) (jARJ : ARJ s) (jPTJ : PTJ s) (p1 : iI s 89 = 1) (p2 : iI s 12 ≤ 8) (p3 : iI s 0 = iI s 74) (p4 : iI s 9 = iI s 90) (p5 : iI s 20 = iI s 98) (p6 : iI s 70 = iI s 107) {i : Int} (hi : 0 ≤ i ∧ i + 6 ≤ (L : Int)) {ce sl : Nat} (hce : ce + 29 ≤ 601024) (hsl : sl + 222 ≤ 7293034) (hk : ∀ (A : Nat → Nat) (t : PS), Bd t → RLx t → FEQ t → RWJ t → FTK t → ARJ t → PTJ t → iI t 89 = 1 → iI t 12 ≤ 8 → iI t 0 = iI t 74 → iI t 9 = iI t 90 → iI t 20 = iI t 98 → iI t 70 = iI t 107 → WS k 1894 [(0, .ref q1), (1, .ref (A 0)), (2, .ref (A 179)), (3, .ref (A 517)), (4, .int (Int32.ofInt i))] [] (Wd A dT t) (ce + 29) (sl + 222)) : WS k 966 [(0, .ref q1), (1, .ref (A 0)), (2, .ref (A 179)), (3, .ref (A 517)), (4, .int (Int32.ofInt i))] [] (Wd A dT s) ce sl := by
  have F : Fm [22, 23, 24, 25, 26, 27, 73, 77, 75, 78, 79, 80, 81, 92, 93, 94] [33, 26, 27, 28, 29, 30, 31, 32, 20, 36, 37, 21, 35, 38, 1022, 1023, 1460, 202, 204, 205, 206, 207, 208, 209, 210, 211, 212, 213, 214, 215, 216, 217, 218, 219, 220, 221, 222, 223, 224, 225, 226, 227, 203, 161, 230, 233, 231, 232, 228] s s := fm_rf _ _ s
  have b1 := bi_0 I
  have b2 := bi_74 I
  have b3 := bi_9 I
  have b4 := bi_90 I
  have b5 := bi_20 I
  have b6 := bi_98 I
  have b7 := bi_70 I
  have b8 := bi_107 I
  have b9 := bi_12 I
  have b10 := bi_89 I
  refine z_aload_n X (x := A 0) rfl (List.Mem.tail _ (List.Mem.head _)) (z_aload_n X (x := q1) rfl (List.Mem.head _) (z_load X (x := i) rfl (List.Mem.tail _ (List.Mem.tail _ (List.Mem.tail _ (List.Mem.tail _ (List.Mem.head _))))) (z_const X rfl (z_add X rfl (z_sld X S hL rfl (show 0 ≤ (i + 1) ∧ (i + 1) < (L : Int) by first | exact sx_in hi (by decide) | omega) ?_)))))
  have sr11 : rng (sc xs (i + 1)) := sc_rng
  refine z_aload_n X (x := A 517) rfl (List.Mem.tail _ (List.Mem.tail _ (List.Mem.tail _ (List.Mem.head _)))) ?_
  obtain ⟨U, hU1, hU2, hU3⟩ := air_U jARJ.2.2.2.2.2.1 jARJ.1 jARJ.2.1 jARJ.2.2.1 jARJ.2.2.2.2.1 jARJ.2.2.2.2.2.2.2 (by omega) (by omega)
  refine z_callL X (rm := rmN 330) (As := [.ref (A 0), .int (Int32.ofInt (sc xs (i + 1))), .ref (A 517)]) (st := []) rfl (by decide) rfl (by rw [E.1, E.2.1, E.2.2.1]; exact lw_better6 G I jARJ.2.2.2.2.2.1 jARJ.2.2.2.2.2.2.1 hU1 jPTJ.1 hU3 (by omega)) ⟨by rw [E.2.2.2]; exact (show 14 + 1 ≤ 2048 by decide), by rw [E.2.2.2]; exact (show 8 + (4 + 11) + 289 ≤ 84000 by decide), by rw [E.2.2.2]; exact (show ce + 1 ≤ 601024 by first | exact rmo_1 hce (by decide) | exact rmo_2 hce (by decide) | omega), by rw [E.2.2.2]; exact (show sl + 6 ≤ 7293034 by first | exact rmo_1 hsl (by decide) | exact rmo_2 hsl (by decide) | omega)⟩ (Nat.le_of_ble_eq_true rfl) (fun vv A s12 hA2 hq => ?_) (fun ee A s12 hA2 hq => ?_)
  rotate_left
  · obtain ⟨Is12, Fs12, JPMJ_s12, e13, hv, hrs12, hps12⟩ := hq; cases hv
  obtain ⟨Is12, Fs12, JPMJ_s12, e13, hv, hrs12, hps12⟩ := hq
  cases hv
  rw [← hA2 0 (by decide)]
  rw [← hA2 179 (by decide)]
  rw [← hA2 517 (by decide)]
  have JRLx_s12 : RLx s12 := RLx_fm Fs12 (by decide) jR
  have JFEQ_s12 : FEQ s12 := FEQ_fm Fs12 (by decide) jFEQ
  have JRWJ_s12 : RWJ s12 := RWJ_fm Fs12 (by decide +kernel) jRWJ
  have JFTK_s12 : FTK s12 := FTK_fm Fs12 (by decide) jFTK
  have JARJ_s12 : ARJ s12 := ARJ_fm Fs12 ⟨by decide +kernel, by decide +kernel, by decide +kernel, by decide +kernel, by decide +kernel, by decide +kernel, by decide +kernel, by decide +kernel⟩ jARJ
  have JALJ_s12 : AEQ 24 229 8 s12 := ALJ_fm Fs12 (by decide) jPTJ.2.2.1
  have JMKJ_s12 : MKJ s12 := MKJ_fm Fs12 (by decide +kernel) jPTJ.2.2.2
  have JMDJ_s12 : MDJ U s12 := MDJ_fm Fs12 (by decide +kernel) hU2
  have ws12_0 : iI s12 0 = iI s 0 := fm_iq Fs12 rfl
  have ws12_74 : iI s12 74 = iI s 74 := fm_iq Fs12 rfl
  have ws12_9 : iI s12 9 = iI s 9 := fm_iq Fs12 rfl
  have ws12_90 : iI s12 90 = iI s 90 := fm_iq Fs12 rfl
  have ws12_20 : iI s12 20 = iI s 20 := fm_iq Fs12 rfl
  have ws12_98 : iI s12 98 = iI s 98 := fm_iq Fs12 rfl
  have ws12_70 : iI s12 70 = iI s 70 := fm_iq Fs12 rfl
  have ws12_107 : iI s12 107 = iI s 107 := fm_iq Fs12 rfl
  have ws12_12 : iI s12 12 = iI s 12 := fm_iq Fs12 rfl
  have ws12_89 : iI s12 89 = iI s 89 := fm_iq Fs12 rfl
  show WS k 977 [(0, .ref q1), (1, .ref (A 0)), (2, .ref (A 179)), (3, .ref (A 517)), (4, .int (Int32.ofInt i))] [.int (Int32.ofInt e13)] (Wd A dT s12) (ce + 1) (sl + 6)
  refine z_store X (lv' := [(5, .int (Int32.ofInt e13)), (0, .ref q1), (1, .ref (A 0)), (2, .ref (A 179)), (3, .ref (A 517)), (4, .int (Int32.ofInt i))]) rfl (by decide) (fun _ h => h) (z_aload_n X (x := A 179) rfl (List.Mem.tail _ (List.Mem.tail _ (List.Mem.tail _ (List.Mem.head _)))) (z_aload_n X (x := q1) rfl (List.Mem.tail _ (List.Mem.head _)) (z_load X (x := i) rfl (List.Mem.tail _ (List.Mem.tail _ (List.Mem.tail _ (List.Mem.tail _ (List.Mem.tail _ (List.Mem.head _)))))) (z_const X rfl (z_add X rfl (z_sld X S hL rfl (show 0 ≤ (i + 1) ∧ (i + 1) < (L : Int) by first | exact sx_in hi (by decide) | omega) ?_))))))
  have sr14 : rng (sc xs (i + 1)) := sc_rng
  refine z_callV X 179 (rm := rmN 256) (As := [.int (Int32.ofInt (sc xs (i + 1)))]) (st := []) rfl rfl (by decide) rfl (by rw [E.1, E.2.1, E.2.2.1]; exact k_better6 G Is12 JRLx_s12 JMDJ_s12 (by first | exact ⟨sr14.1, sr14.2⟩ | omega) (by first | exact oq_b44a1c7f ws12_89 p1 b10.1 | omega)) ⟨by rw [E.2.2.2]; exact (show 42 + 1 ≤ 2048 from oq_38aede7b), by rw [E.2.2.2]; exact (show 8 + (2 + 11) + 1687 ≤ 84000 from oq_b5fdcedd), by rw [E.2.2.2]; exact (show (ce + 1) + 0 ≤ 601024 by first | (clear hps12; omega) | omega), by rw [E.2.2.2]; exact (show (sl + 6) + 0 ≤ 7293034 by first | (clear hps12; omega) | omega)⟩ (Nat.le_of_ble_eq_true rfl) (fun vv s15 hq => ?_) (fun ee s15 hq => ?_)
  rotate_left
  · obtain ⟨Is15, Fs15, JRLx_s15, e16, hv, hrs15, hps15⟩ := hq; cases hv
  obtain ⟨Is15, Fs15, JRLx_s15, e16, hv, hrs15, hps15⟩ := hq
  cases hv
  have JRLx_s15 : RLx s15 := RLx_fm Fs15 (by decide) JRLx_s12
  have JFEQ_s15 : FEQ s15 := FEQ_fm Fs15 (by decide) JFEQ_s12
  have JRWJ_s15 : RWJ s15 := RWJ_fm Fs15 (by decide +kernel) JRWJ_s12
  have JFTK_s15 : FTK s15 := FTK_fm Fs15 (by decide) JFTK_s12
  have JARJ_s15 : ARJ s15 := ARJ_fm Fs15 ⟨by decide +kernel, by decide +kernel, by decide +kernel, by decide +kernel, by decide +kernel, by decide +kernel, by decide +kernel, by decide +kernel⟩ JARJ_s12
  have JALJ_s15 : AEQ 24 229 8 s15 := ALJ_fm Fs15 (by decide) JALJ_s12
  have JMKJ_s15 : MKJ s15 := MKJ_fm Fs15 (by decide +kernel) JMKJ_s12
  have JPMJ_s15 : PMJ s15 := PMJ_fm Fs15 (by decide +kernel) JPMJ_s12
  have ws15_0 : iI s15 0 = iI s12 0 := fm_iq Fs15 rfl
  have ws15_74 : iI s15 74 = iI s12 74 := fm_iq Fs15 rfl
  have ws15_9 : iI s15 9 = iI s12 9 := fm_iq Fs15 rfl
  have ws15_90 : iI s15 90 = iI s12 90 := fm_iq Fs15 rfl
  have ws15_20 : iI s15 20 = iI s12 20 := fm_iq Fs15 rfl
  have ws15_98 : iI s15 98 = iI s12 98 := fm_iq Fs15 rfl
  have ws15_70 : iI s15 70 = iI s12 70 := fm_iq Fs15 rfl
  have ws15_107 : iI s15 107 = iI s12 107 := fm_iq Fs15 rfl
  have ws15_12 : iI s15 12 = iI s12 12 := fm_iq Fs15 rfl
  have ws15_89 : iI s15 89 = iI s12 89 := fm_iq Fs15 rfl
  have wos15 : iO s15 = iO s12 := fm_o Fs15 (by decide)
  show WS k 989 [(5, .int (Int32.ofInt e13)), (0, .ref q1), (1, .ref (A 0)), (2, .ref (A 179)), (3, .ref (A 517)), (4, .int (Int32.ofInt i))] [.int (Int32.ofInt e16)] (Wd A dT s15) (ce + 1) (sl + 6)
  rcases hps12 with cc | cc
  ·
    rcases hps15 with mm | mm
    ·
      have rq17 := bte_eq (u_wok jARJ.2.2.2.2.2.1 hU1) (fun j hj => (jPTJ.2.1 j hj).trans ((sam_fm Fs12 (by decide +kernel) : SAM 228 _ _) j).symm) (fun j hj => (jPTJ.2.2.1 j hj).trans ((sam_fm Fs12 (by decide +kernel) : SAM 229 _ _) j).symm) (fun j hj => I.2 21 j hj) cc.2.2.2.2 mm.2.2.2.2.2
      have jb18 : PTJ s15 := ⟨JPMJ_s15, aeq_sam jPTJ.2.1 (sam_ts cc.2.2.2.1 (sam_fm Fs15 (by decide +kernel))) (sam_ts (sam_fm Fs12 (by decide +kernel)) mm.2.2.2.2.1), JALJ_s15, JMKJ_s15⟩
      refine z_store X (lv' := [(6, .int (Int32.ofInt e16)), (5, .int (Int32.ofInt e13)), (0, .ref q1), (1, .ref (A 0)), (2, .ref (A 179)), (3, .ref (A 517)), (4, .int (Int32.ofInt i))]) rfl (by decide) (fun _ h => h) (z_goto X (t := 1894) rfl rfl (w_widen (ce' := ce + 29) (sl' := sl + 222) (by first | exact Nat.le_add_right _ _ | exact Nat.add_le_add_left (by decide) _ | omega) (by first | exact Nat.le_add_right _ _ | exact Nat.add_le_add_left (by decide) _ | omega) ?_))
      exact WS_lv (lv := [(0, .ref q1), (1, .ref (A 0)), (2, .ref (A 179)), (3, .ref (A 517)), (4, .int (Int32.ofInt i))]) (List.forall_mem_cons.mpr ⟨(List.Mem.tail _ (List.Mem.tail _ (List.Mem.head _))), (List.forall_mem_cons.mpr ⟨(List.Mem.tail _ (List.Mem.tail _ (List.Mem.tail _ (List.Mem.head _)))), (List.forall_mem_cons.mpr ⟨(List.Mem.tail _ (List.Mem.tail _ (List.Mem.tail _ (List.Mem.tail _ (List.Mem.head _))))), (List.forall_mem_cons.mpr ⟨(List.Mem.tail _ (List.Mem.tail _ (List.Mem.tail _ (List.Mem.tail _ (List.Mem.tail _ (List.Mem.head _)))))), (List.forall_mem_cons.mpr ⟨(List.Mem.tail _ (List.Mem.tail _ (List.Mem.tail _ (List.Mem.tail _ (List.Mem.tail _ (List.Mem.tail _ (List.Mem.head _))))))), (fun q h => absurd h List.not_mem_nil)⟩)⟩)⟩)⟩)⟩) (hk A _ Is15 JRLx_s15 JFEQ_s15 JRWJ_s15 JFTK_s15 JARJ_s15 jb18 (by first | exact oq_f34933ba ws15_89 ws12_89 p1 b10.1 | omega) (by first | exact oq_d7ce4408 ws15_12 ws12_12 p2 | omega) (by first | exact oq_5bcdc35f ws15_74 ws15_0 ws12_74 ws12_0 p3 | omega) (by first | exact oq_5bcdc35f ws15_90 ws15_9 ws12_90 ws12_9 p4 | omega) (by first | exact oq_5bcdc35f ws15_98 ws15_20 ws12_98 ws12_20 p5 | omega) (by first | exact oq_5bcdc35f ws15_107 ws15_70 ws12_107 ws12_70 p6 | omega))
    ·
      exfalso
      omega
  ·
    rcases hps15 with mm | mm
    ·
      exfalso
      omega
    ·
      have jb19 : PTJ s15 := ⟨JPMJ_s15, aeq_sam jPTJ.2.1 (sam_ts cc.2.2 (sam_fm Fs15 (by decide +kernel))) (sam_ts (sam_fm Fs12 (by decide +kernel)) mm.2.2.1), JALJ_s15, JMKJ_s15⟩
      refine z_store X (lv' := [(6, .int (Int32.ofInt e16)), (5, .int (Int32.ofInt e13)), (0, .ref q1), (1, .ref (A 0)), (2, .ref (A 179)), (3, .ref (A 517)), (4, .int (Int32.ofInt i))]) rfl (by decide) (fun _ h => h) (z_goto X (t := 1894) rfl rfl (w_widen (ce' := ce + 29) (sl' := sl + 222) (by first | exact Nat.le_add_right _ _ | exact Nat.add_le_add_left (by decide) _ | omega) (by first | exact Nat.le_add_right _ _ | exact Nat.add_le_add_left (by decide) _ | omega) ?_))
      exact WS_lv (lv := [(0, .ref q1), (1, .ref (A 0)), (2, .ref (A 179)), (3, .ref (A 517)), (4, .int (Int32.ofInt i))]) (List.forall_mem_cons.mpr ⟨(List.Mem.tail _ (List.Mem.tail _ (List.Mem.head _))), (List.forall_mem_cons.mpr ⟨(List.Mem.tail _ (List.Mem.tail _ (List.Mem.tail _ (List.Mem.head _)))), (List.forall_mem_cons.mpr ⟨(List.Mem.tail _ (List.Mem.tail _ (List.Mem.tail _ (List.Mem.tail _ (List.Mem.head _))))), (List.forall_mem_cons.mpr ⟨(List.Mem.tail _ (List.Mem.tail _ (List.Mem.tail _ (List.Mem.tail _ (List.Mem.tail _ (List.Mem.head _)))))), (List.forall_mem_cons.mpr ⟨(List.Mem.tail _ (List.Mem.tail _ (List.Mem.tail _ (List.Mem.tail _ (List.Mem.tail _ (List.Mem.tail _ (List.Mem.head _))))))), (fun q h => absurd h List.not_mem_nil)⟩)⟩)⟩)⟩)⟩) (hk A _ Is15 JRLx_s15 JFEQ_s15 JRWJ_s15 JFTK_s15 JARJ_s15 jb19 (by first | exact oq_f34933ba ws15_89 ws12_89 p1 b10.1 | omega) (by first | exact oq_d7ce4408 ws15_12 ws12_12 p2 | omega) (by first | exact oq_5bcdc35f ws15_74 ws15_0 ws12_74 ws12_0 p3 | omega) (by first | exact oq_5bcdc35f ws15_90 ws15_9 ws12_90 ws12_9 p4 | omega) (by first | exact oq_5bcdc35f ws15_98 ws15_20 ws12_98 ws12_20 p5 | omega) (by first | exact oq_5bcdc35f ws15_107 ws15_70 ws12_107 ws12_70 p6 | omega))
theorem lc_21 (G : GX l s0 D tys a0 dT) (GR : RS0 s0) (SF : SF0 s0) (GT : TXs0 s0) (GW : TXw0 s0) {k : kx_T} (X : AX k 350 dT) (E : kL k = l ∧ kS0 k = s0 ∧ kD k = D ∧ kR k = room_1) {q1 L : Nat} {xs : Nat → Int32} (S : SX k q1 L xs) (hL : L ≤ 3072) (I : Bd s) (jR : RLx s) (jFEQ : FEQ s) (jRWJ : RWJ s) (jFTK : FTK s) (jARJ : ARJ s) (jPTJ : PTJ s) (p1 : iI s 89 = 1) (p2 : iI s 12 ≤ 8) (p3 : iI s 0 = iI s 74) (p4 : iI s 9 = iI s 90) (p5 : iI s 20 = iI s 98) (p6 : iI s 70 = iI s 107) {i : Int} (hi : 0 ≤ i ∧ i + 6 ≤ (L : Int)) {ce sl : Nat} (hce : ce + 29 ≤ 601024) (hsl : sl + 222 ≤ 7293034) (hk : ∀ (A : Nat → Nat) (t : PS), Bd t → RLx t → FEQ t → RWJ t → FTK t → ARJ t → PTJ t → iI t 89 = 1 → iI t 12 ≤ 8 → iI t 0 = iI t 74 → iI t 9 = iI t 90 → iI t 20 = iI t 98 → iI t 70 = iI t 107 → WS k 1894 [(0, .ref q1), (1, .ref (A 0)), (2, .ref (A 179)), (3, .ref (A 517)), (4, .int (Int32.ofInt i))] [] (Wd A dT t) (ce + 29) (sl + 222)) : WS k 994 [(0, .ref q1), (1, .ref (A 0)), (2, .ref (A 179)), (3, .ref (A 517)), (4, .int (Int32.ofInt i))] [] (Wd A dT s) ce sl := by
  have F : Fm [22, 23, 24, 25, 26, 27, 73, 77, 75, 78, 79, 80, 81, 92, 93, 94] [33, 26, 27, 28, 29, 30, 31, 32, 20, 36, 37, 21, 35, 38, 1022, 1023, 1460, 202, 204, 205, 206, 207, 208, 209, 210, 211, 212, 213, 214, 215, 216, 217, 218, 219, 220, 221, 222, 223, 224, 225, 226, 227, 203, 161, 230, 233, 231, 232, 228] s s := fm_rf _ _ s
  have b1 := bi_0 I
  have b2 := bi_74 I
  have b3 := bi_9 I
  have b4 := bi_90 I
  have b5 := bi_20 I
  have b6 := bi_98 I
  have b7 := bi_70 I
  have b8 := bi_107 I
  have b9 := bi_12 I
  have b10 := bi_89 I
  refine z_aload_n X (x := A 0) rfl (List.Mem.tail _ (List.Mem.head _)) (z_aload_n X (x := q1) rfl (List.Mem.head _) (z_load X (x := i) rfl (List.Mem.tail _ (List.Mem.tail _ (List.Mem.tail _ (List.Mem.tail _ (List.Mem.head _))))) (z_const X rfl (z_add X rfl (z_sld X S hL rfl (show 0 ≤ (i + 1) ∧ (i + 1) < (L : Int) by first | exact sx_in hi (by decide) | omega) ?_)))))
  have sr11 : rng (sc xs (i + 1)) := sc_rng
  refine z_aload_n X (x := A 517) rfl (List.Mem.tail _ (List.Mem.tail _ (List.Mem.tail _ (List.Mem.head _)))) ?_
  obtain ⟨U, hU1, hU2, hU3⟩ := air_U jARJ.2.2.2.2.2.1 jARJ.1 jARJ.2.1 jARJ.2.2.1 jARJ.2.2.2.2.1 jARJ.2.2.2.2.2.2.2 (by omega) (by omega)
  refine z_callL X (rm := rmN 331) (As := [.ref (A 0), .int (Int32.ofInt (sc xs (i + 1))), .ref (A 517)]) (st := []) rfl (by decide) rfl (by rw [E.1, E.2.1, E.2.2.1]; exact lw_grow6 G I jARJ.2.2.2.2.2.1 jARJ.2.2.2.2.2.2.1 hU1 jPTJ.1 hU3 (by omega)) ⟨by rw [E.2.2.2]; exact (show 14 + 1 ≤ 2048 by decide), by rw [E.2.2.2]; exact (show 8 + (4 + 11) + 290 ≤ 84000 by decide), by rw [E.2.2.2]; exact (show ce + 1 ≤ 601024 by first | exact rmo_1 hce (by decide) | exact rmo_2 hce (by decide) | omega), by rw [E.2.2.2]; exact (show sl + 6 ≤ 7293034 by first | exact rmo_1 hsl (by decide) | exact rmo_2 hsl (by decide) | omega)⟩ (Nat.le_of_ble_eq_true rfl) (fun vv A s12 hA2 hq => ?_) (fun ee A s12 hA2 hq => ?_)
  rotate_left
  · obtain ⟨Is12, Fs12, JPMJ_s12, e13, hv, hrs12, hps12⟩ := hq; cases hv
  obtain ⟨Is12, Fs12, JPMJ_s12, e13, hv, hrs12, hps12⟩ := hq
  cases hv
  rw [← hA2 0 (by decide)]
  rw [← hA2 179 (by decide)]
  rw [← hA2 517 (by decide)]
  have JRLx_s12 : RLx s12 := RLx_fm Fs12 (by decide) jR
  have JFEQ_s12 : FEQ s12 := FEQ_fm Fs12 (by decide) jFEQ
  have JRWJ_s12 : RWJ s12 := RWJ_fm Fs12 (by decide +kernel) jRWJ
  have JFTK_s12 : FTK s12 := FTK_fm Fs12 (by decide) jFTK
  have JARJ_s12 : ARJ s12 := ARJ_fm Fs12 ⟨by decide +kernel, by decide +kernel, by decide +kernel, by decide +kernel, by decide +kernel, by decide +kernel, by decide +kernel, by decide +kernel⟩ jARJ
  have JALJ_s12 : AEQ 24 229 8 s12 := ALJ_fm Fs12 (by decide) jPTJ.2.2.1
  have JMKJ_s12 : MKJ s12 := MKJ_fm Fs12 (by decide +kernel) jPTJ.2.2.2
  have JMDJ_s12 : MDJ U s12 := MDJ_fm Fs12 (by decide +kernel) hU2
  have ws12_0 : iI s12 0 = iI s 0 := fm_iq Fs12 rfl
  have ws12_74 : iI s12 74 = iI s 74 := fm_iq Fs12 rfl
  have ws12_9 : iI s12 9 = iI s 9 := fm_iq Fs12 rfl
  have ws12_90 : iI s12 90 = iI s 90 := fm_iq Fs12 rfl
  have ws12_20 : iI s12 20 = iI s 20 := fm_iq Fs12 rfl
  have ws12_98 : iI s12 98 = iI s 98 := fm_iq Fs12 rfl
  have ws12_70 : iI s12 70 = iI s 70 := fm_iq Fs12 rfl
  have ws12_107 : iI s12 107 = iI s 107 := fm_iq Fs12 rfl
  have ws12_12 : iI s12 12 = iI s 12 := fm_iq Fs12 rfl
  have ws12_89 : iI s12 89 = iI s 89 := fm_iq Fs12 rfl
  show WS k 1005 [(0, .ref q1), (1, .ref (A 0)), (2, .ref (A 179)), (3, .ref (A 517)), (4, .int (Int32.ofInt i))] [.int (Int32.ofInt e13)] (Wd A dT s12) (ce + 1) (sl + 6)
  refine z_store X (lv' := [(5, .int (Int32.ofInt e13)), (0, .ref q1), (1, .ref (A 0)), (2, .ref (A 179)), (3, .ref (A 517)), (4, .int (Int32.ofInt i))]) rfl (by decide) (fun _ h => h) (z_aload_n X (x := A 179) rfl (List.Mem.tail _ (List.Mem.tail _ (List.Mem.tail _ (List.Mem.head _)))) (z_aload_n X (x := q1) rfl (List.Mem.tail _ (List.Mem.head _)) (z_load X (x := i) rfl (List.Mem.tail _ (List.Mem.tail _ (List.Mem.tail _ (List.Mem.tail _ (List.Mem.tail _ (List.Mem.head _)))))) (z_const X rfl (z_add X rfl (z_sld X S hL rfl (show 0 ≤ (i + 1) ∧ (i + 1) < (L : Int) by first | exact sx_in hi (by decide) | omega) ?_))))))
  have sr14 : rng (sc xs (i + 1)) := sc_rng
  refine z_callV X 179 (rm := rmN 257) (As := [.int (Int32.ofInt (sc xs (i + 1)))]) (st := []) rfl rfl (by decide) rfl (by rw [E.1, E.2.1, E.2.2.1]; exact k_grow3 G Is12 JRLx_s12 JMDJ_s12 (by first | exact ⟨sr14.1, sr14.2⟩ | omega) (by first | exact oq_b44a1c7f ws12_89 p1 b10.1 | omega)) ⟨by rw [E.2.2.2]; exact (show 42 + 1 ≤ 2048 from oq_38aede7b), by rw [E.2.2.2]; exact (show 8 + (3 + 11) + 1687 ≤ 84000 from oq_e190c71b), by rw [E.2.2.2]; exact (show (ce + 1) + 0 ≤ 601024 by first | (clear hps12; omega) | omega), by rw [E.2.2.2]; exact (show (sl + 6) + 0 ≤ 7293034 by first | (clear hps12; omega) | omega)⟩ (Nat.le_of_ble_eq_true rfl) (fun vv s15 hq => ?_) (fun ee s15 hq => ?_)
  rotate_left
  · obtain ⟨Is15, Fs15, JRLx_s15, e16, hv, hrs15, hps15⟩ := hq; cases hv
  obtain ⟨Is15, Fs15, JRLx_s15, e16, hv, hrs15, hps15⟩ := hq
  cases hv
  have JRLx_s15 : RLx s15 := RLx_fm Fs15 (by decide) JRLx_s12
  have JFEQ_s15 : FEQ s15 := FEQ_fm Fs15 (by decide) JFEQ_s12
  have JRWJ_s15 : RWJ s15 := RWJ_fm Fs15 (by decide +kernel) JRWJ_s12
  have JFTK_s15 : FTK s15 := FTK_fm Fs15 (by decide) JFTK_s12
  have JARJ_s15 : ARJ s15 := ARJ_fm Fs15 ⟨by decide +kernel, by decide +kernel, by decide +kernel, by decide +kernel, by decide +kernel, by decide +kernel, by decide +kernel, by decide +kernel⟩ JARJ_s12
  have JALJ_s15 : AEQ 24 229 8 s15 := ALJ_fm Fs15 (by decide) JALJ_s12
  have JMKJ_s15 : MKJ s15 := MKJ_fm Fs15 (by decide +kernel) JMKJ_s12
  have JPMJ_s15 : PMJ s15 := PMJ_fm Fs15 (by decide +kernel) JPMJ_s12
  have ws15_0 : iI s15 0 = iI s12 0 := fm_iq Fs15 rfl
  have ws15_74 : iI s15 74 = iI s12 74 := fm_iq Fs15 rfl
  have ws15_9 : iI s15 9 = iI s12 9 := fm_iq Fs15 rfl
  have ws15_90 : iI s15 90 = iI s12 90 := fm_iq Fs15 rfl
  have ws15_20 : iI s15 20 = iI s12 20 := fm_iq Fs15 rfl
  have ws15_98 : iI s15 98 = iI s12 98 := fm_iq Fs15 rfl
  have ws15_70 : iI s15 70 = iI s12 70 := fm_iq Fs15 rfl
  have ws15_107 : iI s15 107 = iI s12 107 := fm_iq Fs15 rfl
  have ws15_12 : iI s15 12 = iI s12 12 := fm_iq Fs15 rfl
  have ws15_89 : iI s15 89 = iI s12 89 := fm_iq Fs15 rfl
  have wos15 : iO s15 = iO s12 := fm_o Fs15 (by decide)
  show WS k 1017 [(5, .int (Int32.ofInt e13)), (0, .ref q1), (1, .ref (A 0)), (2, .ref (A 179)), (3, .ref (A 517)), (4, .int (Int32.ofInt i))] [.int (Int32.ofInt e16)] (Wd A dT s15) (ce + 1) (sl + 6)
  rcases hps12 with cc | cc
  ·
    rcases hps15 with mm | mm
    ·
      have hAP := apj_gre jPTJ.2.1 jPTJ.2.2.1 jARJ.2.2.2.2.2.1 hU1 (fun j hj => I.2 21 j hj) cc.2.2.2 mm.2.2.2.2 (sam_fm Fs12 (by decide +kernel)) (sam_fm Fs15 (by decide +kernel)) (sam_fm Fs12 (by decide +kernel))
      have rq17 := hAP.1
      have jb18 : PTJ s15 := ⟨JPMJ_s15, hAP.2, JALJ_s15, JMKJ_s15⟩
      refine z_store X (lv' := [(6, .int (Int32.ofInt e16)), (5, .int (Int32.ofInt e13)), (0, .ref q1), (1, .ref (A 0)), (2, .ref (A 179)), (3, .ref (A 517)), (4, .int (Int32.ofInt i))]) rfl (by decide) (fun _ h => h) (z_goto X (t := 1894) rfl rfl (w_widen (ce' := ce + 29) (sl' := sl + 222) (by first | exact Nat.le_add_right _ _ | exact Nat.add_le_add_left (by decide) _ | omega) (by first | exact Nat.le_add_right _ _ | exact Nat.add_le_add_left (by decide) _ | omega) ?_))
      exact WS_lv (lv := [(0, .ref q1), (1, .ref (A 0)), (2, .ref (A 179)), (3, .ref (A 517)), (4, .int (Int32.ofInt i))]) (List.forall_mem_cons.mpr ⟨(List.Mem.tail _ (List.Mem.tail _ (List.Mem.head _))), (List.forall_mem_cons.mpr ⟨(List.Mem.tail _ (List.Mem.tail _ (List.Mem.tail _ (List.Mem.head _)))), (List.forall_mem_cons.mpr ⟨(List.Mem.tail _ (List.Mem.tail _ (List.Mem.tail _ (List.Mem.tail _ (List.Mem.head _))))), (List.forall_mem_cons.mpr ⟨(List.Mem.tail _ (List.Mem.tail _ (List.Mem.tail _ (List.Mem.tail _ (List.Mem.tail _ (List.Mem.head _)))))), (List.forall_mem_cons.mpr ⟨(List.Mem.tail _ (List.Mem.tail _ (List.Mem.tail _ (List.Mem.tail _ (List.Mem.tail _ (List.Mem.tail _ (List.Mem.head _))))))), (fun q h => absurd h List.not_mem_nil)⟩)⟩)⟩)⟩)⟩) (hk A _ Is15 JRLx_s15 JFEQ_s15 JRWJ_s15 JFTK_s15 JARJ_s15 jb18 (by first | exact oq_f34933ba ws15_89 ws12_89 p1 b10.1 | omega) (by first | exact oq_d7ce4408 ws15_12 ws12_12 p2 | omega) (by first | exact oq_5bcdc35f ws15_74 ws15_0 ws12_74 ws12_0 p3 | omega) (by first | exact oq_5bcdc35f ws15_90 ws15_9 ws12_90 ws12_9 p4 | omega) (by first | exact oq_5bcdc35f ws15_98 ws15_20 ws12_98 ws12_20 p5 | omega) (by first | exact oq_5bcdc35f ws15_107 ws15_70 ws12_107 ws12_70 p6 | omega))
    ·
      exfalso
      omega
  ·
    rcases hps15 with mm | mm
    ·
      exfalso
      omega
    ·
      have jb19 : PTJ s15 := ⟨JPMJ_s15, aeq_sam jPTJ.2.1 (sam_ts cc.2.2 (sam_fm Fs15 (by decide +kernel))) (sam_ts (sam_fm Fs12 (by decide +kernel)) mm.2.2.1), JALJ_s15, JMKJ_s15⟩
      refine z_store X (lv' := [(6, .int (Int32.ofInt e16)), (5, .int (Int32.ofInt e13)), (0, .ref q1), (1, .ref (A 0)), (2, .ref (A 179)), (3, .ref (A 517)), (4, .int (Int32.ofInt i))]) rfl (by decide) (fun _ h => h) (z_goto X (t := 1894) rfl rfl (w_widen (ce' := ce + 29) (sl' := sl + 222) (by first | exact Nat.le_add_right _ _ | exact Nat.add_le_add_left (by decide) _ | omega) (by first | exact Nat.le_add_right _ _ | exact Nat.add_le_add_left (by decide) _ | omega) ?_))
      exact WS_lv (lv := [(0, .ref q1), (1, .ref (A 0)), (2, .ref (A 179)), (3, .ref (A 517)), (4, .int (Int32.ofInt i))]) (List.forall_mem_cons.mpr ⟨(List.Mem.tail _ (List.Mem.tail _ (List.Mem.head _))), (List.forall_mem_cons.mpr ⟨(List.Mem.tail _ (List.Mem.tail _ (List.Mem.tail _ (List.Mem.head _)))), (List.forall_mem_cons.mpr ⟨(List.Mem.tail _ (List.Mem.tail _ (List.Mem.tail _ (List.Mem.tail _ (List.Mem.head _))))), (List.forall_mem_cons.mpr ⟨(List.Mem.tail _ (List.Mem.tail _ (List.Mem.tail _ (List.Mem.tail _ (List.Mem.tail _ (List.Mem.head _)))))), (List.forall_mem_cons.mpr ⟨(List.Mem.tail _ (List.Mem.tail _ (List.Mem.tail _ (List.Mem.tail _ (List.Mem.tail _ (List.Mem.tail _ (List.Mem.head _))))))), (fun q h => absurd h List.not_mem_nil)⟩)⟩)⟩)⟩)⟩) (hk A _ Is15 JRLx_s15 JFEQ_s15 JRWJ_s15 JFTK_s15 JARJ_s15 jb19 (by first | exact oq_f34933ba ws15_89 ws12_89 p1 b10.1 | omega) (by first | exact oq_d7ce4408 ws15_12 ws12_12 p2 | omega) (by first | exact oq_5bcdc35f ws15_74 ws15_0 ws12_74 ws12_0 p3 | omega) (by first | exact oq_5bcdc35f ws15_90 ws15_9 ws12_90 ws12_9 p4 | omega) (by first | exact oq_5bcdc35f ws15_98 ws15_20 ws12_98 ws12_20 p5 | omega) (by first | exact oq_5bcdc35f ws15_107 ws15_70 ws12_107 ws12_70 p6 | omega))
theorem lc_22 (G : GX l s0 D tys a0 dT) (GR : RS0 s0) (SF : SF0 s0) (GT : TXs0 s0) (GW : TXw0 s0) {k : kx_T} (X : AX k 350 dT) (E : kL k = l ∧ kS0 k = s0 ∧ kD k = D ∧ kR k = room_1) {q1 L : Nat} {xs : Nat → Int32} (S : SX k q1 L xs) (hL : L ≤ 3072) (I : Bd s) (jR : RLx s) (jFEQ : FEQ s) (jRWJ : RWJ s) (jFTK : FTK s) (jARJ : ARJ s) (jPTJ : PTJ s) (p1 : iI s 89 = 1) (p2 : iI s 12 ≤ 8) (p3 : iI s 0 = iI s 74) (p4 : iI s 9 = iI s 90) (p5 : iI s 20 = iI s 98) (p6 : iI s 70 = iI s 107) {i : Int} (hi : 0 ≤ i ∧ i + 6 ≤ (L : Int)) {ce sl : Nat} (hce : ce + 29 ≤ 601024) (hsl : sl + 222 ≤ 7293034) (hk : ∀ (A : Nat → Nat) (t : PS), Bd t → RLx t → FEQ t → RWJ t → FTK t → ARJ t → PTJ t → iI t 89 = 1 → iI t 12 ≤ 8 → iI t 0 = iI t 74 → iI t 9 = iI t 90 → iI t 20 = iI t 98 → iI t 70 = iI t 107 → WS k 1894 [(0, .ref q1), (1, .ref (A 0)), (2, .ref (A 179)), (3, .ref (A 517)), (4, .int (Int32.ofInt i))] [] (Wd A dT t) (ce + 29) (sl + 222)) : WS k 1022 [(0, .ref q1), (1, .ref (A 0)), (2, .ref (A 179)), (3, .ref (A 517)), (4, .int (Int32.ofInt i))] [] (Wd A dT s) ce sl := by
  have F : Fm [28, 73, 97] [39, 1460, 234] s s := fm_rf _ _ s
  have b1 := bi_0 I
  have b2 := bi_74 I
  have b3 := bi_9 I
  have b4 := bi_90 I
  have b5 := bi_20 I
  have b6 := bi_98 I
  have b7 := bi_70 I
  have b8 := bi_107 I
  have b9 := bi_12 I
  have b10 := bi_89 I
  refine z_aload_n X (x := A 0) rfl (List.Mem.tail _ (List.Mem.head _)) (z_aload_n X (x := q1) rfl (List.Mem.head _) (z_load X (x := i) rfl (List.Mem.tail _ (List.Mem.tail _ (List.Mem.tail _ (List.Mem.tail _ (List.Mem.head _))))) (z_const X rfl (z_add X rfl (z_sld X S hL rfl (show 0 ≤ (i + 1) ∧ (i + 1) < (L : Int) by first | exact sx_in hi (by decide) | omega) ?_)))))
  have sr11 : rng (sc xs (i + 1)) := sc_rng
  refine z_aload_n X (x := A 517) rfl (List.Mem.tail _ (List.Mem.tail _ (List.Mem.tail _ (List.Mem.head _)))) (z_callL X (rm := rmN 332) (As := [.ref (A 0), .int (Int32.ofInt (sc xs (i + 1))), .ref (A 517)]) (st := []) rfl (by decide) rfl (by rw [E.1, E.2.1, E.2.2.1]; exact lw_region G I (by omega)) ⟨by rw [E.2.2.2]; exact (show 8 + 1 ≤ 2048 by decide), by rw [E.2.2.2]; exact (show 8 + (4 + 11) + 143 ≤ 84000 by decide), by rw [E.2.2.2]; exact (show ce + 1 ≤ 601024 by first | exact rmo_1 hce (by decide) | exact rmo_2 hce (by decide) | omega), by rw [E.2.2.2]; exact (show sl + 6 ≤ 7293034 by first | exact rmo_1 hsl (by decide) | exact rmo_2 hsl (by decide) | omega)⟩ (Nat.le_of_ble_eq_true rfl) (fun vv A s12 hA2 hq => ?_) (fun ee A s12 hA2 hq => ?_))
  rotate_left
  · obtain ⟨Is12, Fs12, e13, hv, hrs12, hps12⟩ := hq; cases hv
  obtain ⟨Is12, Fs12, e13, hv, hrs12, hps12⟩ := hq
  cases hv
  rw [← hA2 0 (by decide)]
  rw [← hA2 179 (by decide)]
  rw [← hA2 517 (by decide)]
  have JRLx_s12 : RLx s12 := RLx_fm Fs12 (by decide) jR
  have JFEQ_s12 : FEQ s12 := FEQ_fm Fs12 (by decide) jFEQ
  have JRWJ_s12 : RWJ s12 := RWJ_fm Fs12 (by decide +kernel) jRWJ
  have JFTK_s12 : FTK s12 := FTK_fm Fs12 (by decide) jFTK
  have JARJ_s12 : ARJ s12 := ARJ_fm Fs12 ⟨by decide +kernel, by decide +kernel, by decide +kernel, by decide +kernel, by decide +kernel, by decide +kernel, by decide +kernel, by decide +kernel⟩ jARJ
  have JPTJ_s12 : PTJ s12 := PTJ_fm Fs12 (by decide +kernel) jPTJ
  have ws12_0 : iI s12 0 = iI s 0 := fm_iq Fs12 rfl
  have ws12_74 : iI s12 74 = iI s 74 := fm_iq Fs12 rfl
  have ws12_9 : iI s12 9 = iI s 9 := fm_iq Fs12 rfl
  have ws12_90 : iI s12 90 = iI s 90 := fm_iq Fs12 rfl
  have ws12_20 : iI s12 20 = iI s 20 := fm_iq Fs12 rfl
  have ws12_98 : iI s12 98 = iI s 98 := fm_iq Fs12 rfl
  have ws12_70 : iI s12 70 = iI s 70 := fm_iq Fs12 rfl
  have ws12_107 : iI s12 107 = iI s 107 := fm_iq Fs12 rfl
  have ws12_12 : iI s12 12 = iI s 12 := fm_iq Fs12 rfl
  have ws12_89 : iI s12 89 = iI s 89 := fm_iq Fs12 rfl
  show WS k 1033 [(0, .ref q1), (1, .ref (A 0)), (2, .ref (A 179)), (3, .ref (A 517)), (4, .int (Int32.ofInt i))] [.int (Int32.ofInt e13)] (Wd A dT s12) (ce + 1) (sl + 6)
  refine z_store X (lv' := [(5, .int (Int32.ofInt e13)), (0, .ref q1), (1, .ref (A 0)), (2, .ref (A 179)), (3, .ref (A 517)), (4, .int (Int32.ofInt i))]) rfl (by decide) (fun _ h => h) (z_aload_n X (x := A 179) rfl (List.Mem.tail _ (List.Mem.tail _ (List.Mem.tail _ (List.Mem.head _)))) (z_aload_n X (x := q1) rfl (List.Mem.tail _ (List.Mem.head _)) (z_load X (x := i) rfl (List.Mem.tail _ (List.Mem.tail _ (List.Mem.tail _ (List.Mem.tail _ (List.Mem.tail _ (List.Mem.head _)))))) (z_const X rfl (z_add X rfl (z_sld X S hL rfl (show 0 ≤ (i + 1) ∧ (i + 1) < (L : Int) by first | exact sx_in hi (by decide) | omega) ?_))))))
  have sr14 : rng (sc xs (i + 1)) := sc_rng
  refine z_callV X 179 (rm := rmN 258) (As := [.int (Int32.ofInt (sc xs (i + 1)))]) (st := []) rfl rfl (by decide) rfl (by rw [E.1, E.2.1, E.2.2.1]; exact k_region G Is12 (by first | exact ⟨sr14.1, sr14.2⟩ | omega)) ⟨by rw [E.2.2.2]; exact (show 7 + 1 ≤ 2048 from oq_4e6106eb), by rw [E.2.2.2]; exact (show 8 + (3 + 11) + 122 ≤ 84000 from oq_38d194b9), by rw [E.2.2.2]; exact (show (ce + 1) + 0 ≤ 601024 by omega), by rw [E.2.2.2]; exact (show (sl + 6) + 0 ≤ 7293034 by omega)⟩ (Nat.le_of_ble_eq_true rfl) (fun vv s15 hq => ?_) (fun ee s15 hq => ?_)
  rotate_left
  · obtain ⟨Is15, Fs15, e16, hv, hrs15, hps15⟩ := hq; cases hv
  obtain ⟨Is15, Fs15, e16, hv, hrs15, hps15⟩ := hq
  cases hv
  have JRLx_s15 : RLx s15 := RLx_fm Fs15 (by decide) JRLx_s12
  have JFEQ_s15 : FEQ s15 := FEQ_fm Fs15 (by decide) JFEQ_s12
  have JRWJ_s15 : RWJ s15 := RWJ_fm Fs15 (by decide +kernel) JRWJ_s12
  have JFTK_s15 : FTK s15 := FTK_fm Fs15 (by decide) JFTK_s12
  have JARJ_s15 : ARJ s15 := ARJ_fm Fs15 ⟨by decide +kernel, by decide +kernel, by decide +kernel, by decide +kernel, by decide +kernel, by decide +kernel, by decide +kernel, by decide +kernel⟩ JARJ_s12
  have JPTJ_s15 : PTJ s15 := PTJ_fm Fs15 (by decide +kernel) JPTJ_s12
  have ws15_0 : iI s15 0 = iI s12 0 := fm_iq Fs15 rfl
  have ws15_74 : iI s15 74 = iI s12 74 := fm_iq Fs15 rfl
  have ws15_9 : iI s15 9 = iI s12 9 := fm_iq Fs15 rfl
  have ws15_90 : iI s15 90 = iI s12 90 := fm_iq Fs15 rfl
  have ws15_20 : iI s15 20 = iI s12 20 := fm_iq Fs15 rfl
  have ws15_98 : iI s15 98 = iI s12 98 := fm_iq Fs15 rfl
  have ws15_70 : iI s15 70 = iI s12 70 := fm_iq Fs15 rfl
  have ws15_107 : iI s15 107 = iI s12 107 := fm_iq Fs15 rfl
  have ws15_12 : iI s15 12 = iI s12 12 := fm_iq Fs15 rfl
  have ws15_89 : iI s15 89 = iI s12 89 := fm_iq Fs15 rfl
  have wos15 : iO s15 = iO s12 := fm_o Fs15 (by decide)
  show WS k 1045 [(5, .int (Int32.ofInt e13)), (0, .ref q1), (1, .ref (A 0)), (2, .ref (A 179)), (3, .ref (A 517)), (4, .int (Int32.ofInt i))] [.int (Int32.ofInt e16)] (Wd A dT s15) (ce + 1) (sl + 6)
  refine z_store X (lv' := [(6, .int (Int32.ofInt e16)), (5, .int (Int32.ofInt e13)), (0, .ref q1), (1, .ref (A 0)), (2, .ref (A 179)), (3, .ref (A 517)), (4, .int (Int32.ofInt i))]) rfl (by decide) (fun _ h => h) (z_goto X (t := 1894) rfl rfl (w_widen (ce' := ce + 29) (sl' := sl + 222) (by first | exact Nat.le_add_right _ _ | exact Nat.add_le_add_left (by decide) _ | omega) (by first | exact Nat.le_add_right _ _ | exact Nat.add_le_add_left (by decide) _ | omega) ?_))
  exact WS_lv (lv := [(0, .ref q1), (1, .ref (A 0)), (2, .ref (A 179)), (3, .ref (A 517)), (4, .int (Int32.ofInt i))]) (List.forall_mem_cons.mpr ⟨(List.Mem.tail _ (List.Mem.tail _ (List.Mem.head _))), (List.forall_mem_cons.mpr ⟨(List.Mem.tail _ (List.Mem.tail _ (List.Mem.tail _ (List.Mem.head _)))), (List.forall_mem_cons.mpr ⟨(List.Mem.tail _ (List.Mem.tail _ (List.Mem.tail _ (List.Mem.tail _ (List.Mem.head _))))), (List.forall_mem_cons.mpr ⟨(List.Mem.tail _ (List.Mem.tail _ (List.Mem.tail _ (List.Mem.tail _ (List.Mem.tail _ (List.Mem.head _)))))), (List.forall_mem_cons.mpr ⟨(List.Mem.tail _ (List.Mem.tail _ (List.Mem.tail _ (List.Mem.tail _ (List.Mem.tail _ (List.Mem.tail _ (List.Mem.head _))))))), (fun q h => absurd h List.not_mem_nil)⟩)⟩)⟩)⟩)⟩) (hk A _ Is15 JRLx_s15 JFEQ_s15 JRWJ_s15 JFTK_s15 JARJ_s15 JPTJ_s15 (by first | exact oq_f34933ba ws15_89 ws12_89 p1 b10.1 | omega) (by first | exact oq_d7ce4408 ws15_12 ws12_12 p2 | omega) (by first | exact oq_5bcdc35f ws15_74 ws15_0 ws12_74 ws12_0 p3 | omega) (by first | exact oq_5bcdc35f ws15_90 ws15_9 ws12_90 ws12_9 p4 | omega) (by first | exact oq_5bcdc35f ws15_98 ws15_20 ws12_98 ws12_20 p5 | omega) (by first | exact oq_5bcdc35f ws15_107 ws15_70 ws12_107 ws12_70 p6 | omega))
theorem lc_23 (G : GX l s0 D tys a0 dT) (GR : RS0 s0) (SF : SF0 s0) (GT : TXs0 s0) (GW : TXw0 s0) {k : kx_T} (X : AX k 350 dT) (E : kL k = l ∧ kS0 k = s0 ∧ kD k = D ∧ kR k = room_1) {q1 L : Nat} {xs : Nat → Int32} (S : SX k q1 L xs) (hL : L ≤ 3072) (I : Bd s) (jR : RLx s) (jFEQ : FEQ s) (jRWJ : RWJ s) (jFTK : FTK s) (jARJ : ARJ s) (jPTJ : PTJ s) (p1 : iI s 89 = 1) (p2 : iI s 12 ≤ 8) (p3 : iI s 0 = iI s 74) (p4 : iI s 9 = iI s 90) (p5 : iI s 20 = iI s 98) (p6 : iI s 70 = iI s 107) {i : Int} (hi : 0 ≤ i ∧ i + 6 ≤ (L : Int)) {ce sl : Nat} (hce : ce + 29 ≤ 601024) (hsl : sl + 222 ≤ 7293034) (hk : ∀ (A : Nat → Nat) (t : PS), Bd t → RLx t → FEQ t → RWJ t → FTK t → ARJ t → PTJ t → iI t 89 = 1 → iI t 12 ≤ 8 → iI t 0 = iI t 74 → iI t 9 = iI t 90 → iI t 20 = iI t 98 → iI t 70 = iI t 107 → WS k 1894 [(0, .ref q1), (1, .ref (A 0)), (2, .ref (A 179)), (3, .ref (A 517)), (4, .int (Int32.ofInt i))] [] (Wd A dT t) (ce + 29) (sl + 222)) : WS k 1050 [(0, .ref q1), (1, .ref (A 0)), (2, .ref (A 179)), (3, .ref (A 517)), (4, .int (Int32.ofInt i))] [] (Wd A dT s) ce sl := by
  have F : Fm [22, 23, 24, 31, 29, 30, 73, 77, 75, 78, 79, 80, 81, 100, 101] [33, 26, 27, 28, 29, 30, 31, 32, 20, 40, 41, 42, 45, 43, 44, 1460, 202, 204, 205, 206, 207, 208, 209, 210, 211, 212, 213, 214, 215, 216, 217, 218, 219, 220, 221, 222, 223, 224, 225, 226, 227, 203, 161, 230, 231, 232, 240, 238, 239, 236, 235] s s := fm_rf _ _ s
  have b1 := bi_0 I
  have b2 := bi_74 I
  have b3 := bi_9 I
  have b4 := bi_90 I
  have b5 := bi_20 I
  have b6 := bi_98 I
  have b7 := bi_70 I
  have b8 := bi_107 I
  have b9 := bi_12 I
  have b10 := bi_89 I
  refine z_aload_n X (x := A 0) rfl (List.Mem.tail _ (List.Mem.head _)) (z_aload_n X (x := q1) rfl (List.Mem.head _) (z_load X (x := i) rfl (List.Mem.tail _ (List.Mem.tail _ (List.Mem.tail _ (List.Mem.tail _ (List.Mem.head _))))) (z_const X rfl (z_add X rfl (z_sld X S hL rfl (show 0 ≤ (i + 1) ∧ (i + 1) < (L : Int) by first | exact sx_in hi (by decide) | omega) ?_)))))
  have sr11 : rng (sc xs (i + 1)) := sc_rng
  refine z_aload_n X (x := q1) rfl (List.Mem.head _) (z_load X (x := i) rfl (List.Mem.tail _ (List.Mem.tail _ (List.Mem.tail _ (List.Mem.tail _ (List.Mem.head _))))) (z_const X rfl (z_add X rfl (z_sld X S hL rfl (show 0 ≤ (i + 2) ∧ (i + 2) < (L : Int) by first | exact sx_in hi (by decide) | omega) ?_))))
  have sr12 : rng (sc xs (i + 2)) := sc_rng
  refine z_aload_n X (x := A 517) rfl (List.Mem.tail _ (List.Mem.tail _ (List.Mem.tail _ (List.Mem.head _)))) (z_callL X (rm := rmN 333) (As := [.ref (A 0), .int (Int32.ofInt (sc xs (i + 1))), .int (Int32.ofInt (sc xs (i + 2))), .ref (A 517)]) (st := []) rfl (by decide) rfl (by rw [E.1, E.2.1, E.2.2.1]; exact lw_parted G I (by omega) (by omega)) ⟨by rw [E.2.2.2]; exact (show 35 + 1 ≤ 2048 by decide), by rw [E.2.2.2]; exact (show 8 + (5 + 11) + 1468 ≤ 84000 by decide), by rw [E.2.2.2]; exact (show ce + 2 ≤ 601024 by first | exact rmo_1 hce (by decide) | exact rmo_2 hce (by decide) | omega), by rw [E.2.2.2]; exact (show sl + 12 ≤ 7293034 by first | exact rmo_1 hsl (by decide) | exact rmo_2 hsl (by decide) | omega)⟩ (Nat.le_of_ble_eq_true rfl) (fun vv A s13 hA2 hq => ?_) (fun ee A s13 hA2 hq => ?_))
  rotate_left
  · obtain ⟨Is13, Fs13, e14, hv, hrs13, hps13⟩ := hq; cases hv
  obtain ⟨Is13, Fs13, e14, hv, hrs13, hps13⟩ := hq
  cases hv
  rw [← hA2 0 (by decide)]
  rw [← hA2 179 (by decide)]
  rw [← hA2 517 (by decide)]
  have JRLx_s13 : RLx s13 := RLx_fm Fs13 (by decide) jR
  have JFEQ_s13 : FEQ s13 := FEQ_fm Fs13 (by decide) jFEQ
  have JRWJ_s13 : RWJ s13 := RWJ_fm Fs13 (by decide +kernel) jRWJ
  have JFTK_s13 : FTK s13 := FTK_fm Fs13 (by decide) jFTK
  have JARJ_s13 : ARJ s13 := ARJ_fm Fs13 ⟨by decide +kernel, by decide +kernel, by decide +kernel, by decide +kernel, by decide +kernel, by decide +kernel, by decide +kernel, by decide +kernel⟩ jARJ
  have JPTJ_s13 : PTJ s13 := PTJ_fm Fs13 (by decide +kernel) jPTJ
  have ws13_0 : iI s13 0 = iI s 0 := fm_iq Fs13 rfl
  have ws13_74 : iI s13 74 = iI s 74 := fm_iq Fs13 rfl
  have ws13_9 : iI s13 9 = iI s 9 := fm_iq Fs13 rfl
  have ws13_90 : iI s13 90 = iI s 90 := fm_iq Fs13 rfl
  have ws13_20 : iI s13 20 = iI s 20 := fm_iq Fs13 rfl
  have ws13_98 : iI s13 98 = iI s 98 := fm_iq Fs13 rfl
  have ws13_70 : iI s13 70 = iI s 70 := fm_iq Fs13 rfl
  have ws13_107 : iI s13 107 = iI s 107 := fm_iq Fs13 rfl
  have ws13_12 : iI s13 12 = iI s 12 := fm_iq Fs13 rfl
  have ws13_89 : iI s13 89 = iI s 89 := fm_iq Fs13 rfl
  show WS k 1067 [(0, .ref q1), (1, .ref (A 0)), (2, .ref (A 179)), (3, .ref (A 517)), (4, .int (Int32.ofInt i))] [.int (Int32.ofInt e14)] (Wd A dT s13) (ce + 2) (sl + 12)
  refine z_store X (lv' := [(5, .int (Int32.ofInt e14)), (0, .ref q1), (1, .ref (A 0)), (2, .ref (A 179)), (3, .ref (A 517)), (4, .int (Int32.ofInt i))]) rfl (by decide) (fun _ h => h) (z_aload_n X (x := A 179) rfl (List.Mem.tail _ (List.Mem.tail _ (List.Mem.tail _ (List.Mem.head _)))) (z_aload_n X (x := q1) rfl (List.Mem.tail _ (List.Mem.head _)) (z_load X (x := i) rfl (List.Mem.tail _ (List.Mem.tail _ (List.Mem.tail _ (List.Mem.tail _ (List.Mem.tail _ (List.Mem.head _)))))) (z_const X rfl (z_add X rfl (z_sld X S hL rfl (show 0 ≤ (i + 1) ∧ (i + 1) < (L : Int) by first | exact sx_in hi (by decide) | omega) ?_))))))
  have sr15 : rng (sc xs (i + 1)) := sc_rng
  refine z_aload_n X (x := q1) rfl (List.Mem.tail _ (List.Mem.head _)) (z_load X (x := i) rfl (List.Mem.tail _ (List.Mem.tail _ (List.Mem.tail _ (List.Mem.tail _ (List.Mem.tail _ (List.Mem.head _)))))) (z_const X rfl (z_add X rfl (z_sld X S hL rfl (show 0 ≤ (i + 2) ∧ (i + 2) < (L : Int) by first | exact sx_in hi (by decide) | omega) ?_))))
  have sr16 : rng (sc xs (i + 2)) := sc_rng
  refine z_callV X 179 (rm := rmN 263) (As := [.int (Int32.ofInt (sc xs (i + 1))), .int (Int32.ofInt (sc xs (i + 2)))]) (st := []) rfl rfl (by decide) rfl (by rw [E.1, E.2.1, E.2.2.1]; exact k_parted G Is13 JRLx_s13 (by first | exact ⟨sr15.1, sr15.2⟩ | omega) (by first | exact ⟨sr16.1, sr16.2⟩ | omega)) ⟨by rw [E.2.2.2]; exact (show 38 + 1 ≤ 2048 from oq_a3fac05c), by rw [E.2.2.2]; exact (show 8 + (3 + 11) + 1601 ≤ 84000 from oq_e81fc71d), by rw [E.2.2.2]; exact (show (ce + 2) + 0 ≤ 601024 by omega), by rw [E.2.2.2]; exact (show (sl + 12) + 0 ≤ 7293034 by omega)⟩ (Nat.le_of_ble_eq_true rfl) (fun vv s17 hq => ?_) (fun ee s17 hq => ?_)
  rotate_left
  · obtain ⟨Is17, Fs17, JRLx_s17, e18, hv, hrs17, hps17⟩ := hq; cases hv
  obtain ⟨Is17, Fs17, JRLx_s17, e18, hv, hrs17, hps17⟩ := hq
  cases hv
  have JRLx_s17 : RLx s17 := RLx_fm Fs17 (by decide) JRLx_s13
  have JFEQ_s17 : FEQ s17 := FEQ_fm Fs17 (by decide) JFEQ_s13
  have JRWJ_s17 : RWJ s17 := RWJ_fm Fs17 (by decide +kernel) JRWJ_s13
  have JFTK_s17 : FTK s17 := FTK_fm Fs17 (by decide) JFTK_s13
  have JARJ_s17 : ARJ s17 := ARJ_fm Fs17 ⟨by decide +kernel, by decide +kernel, by decide +kernel, by decide +kernel, by decide +kernel, by decide +kernel, by decide +kernel, by decide +kernel⟩ JARJ_s13
  have JPTJ_s17 : PTJ s17 := PTJ_fm Fs17 (by decide +kernel) JPTJ_s13
  have ws17_0 : iI s17 0 = iI s13 0 := fm_iq Fs17 rfl
  have ws17_74 : iI s17 74 = iI s13 74 := fm_iq Fs17 rfl
  have ws17_9 : iI s17 9 = iI s13 9 := fm_iq Fs17 rfl
  have ws17_90 : iI s17 90 = iI s13 90 := fm_iq Fs17 rfl
  have ws17_20 : iI s17 20 = iI s13 20 := fm_iq Fs17 rfl
  have ws17_98 : iI s17 98 = iI s13 98 := fm_iq Fs17 rfl
  have ws17_70 : iI s17 70 = iI s13 70 := fm_iq Fs17 rfl
  have ws17_107 : iI s17 107 = iI s13 107 := fm_iq Fs17 rfl
  have ws17_12 : iI s17 12 = iI s13 12 := fm_iq Fs17 rfl
  have ws17_89 : iI s17 89 = iI s13 89 := fm_iq Fs17 rfl
  have wos17 : iO s17 = iO s13 := fm_o Fs17 (by decide)
  show WS k 1085 [(5, .int (Int32.ofInt e14)), (0, .ref q1), (1, .ref (A 0)), (2, .ref (A 179)), (3, .ref (A 517)), (4, .int (Int32.ofInt i))] [.int (Int32.ofInt e18)] (Wd A dT s17) (ce + 2) (sl + 12)
  refine z_store X (lv' := [(6, .int (Int32.ofInt e18)), (5, .int (Int32.ofInt e14)), (0, .ref q1), (1, .ref (A 0)), (2, .ref (A 179)), (3, .ref (A 517)), (4, .int (Int32.ofInt i))]) rfl (by decide) (fun _ h => h) (z_goto X (t := 1894) rfl rfl (w_widen (ce' := ce + 29) (sl' := sl + 222) (by first | exact Nat.le_add_right _ _ | exact Nat.add_le_add_left (by decide) _ | omega) (by first | exact Nat.le_add_right _ _ | exact Nat.add_le_add_left (by decide) _ | omega) ?_))
  exact WS_lv (lv := [(0, .ref q1), (1, .ref (A 0)), (2, .ref (A 179)), (3, .ref (A 517)), (4, .int (Int32.ofInt i))]) (List.forall_mem_cons.mpr ⟨(List.Mem.tail _ (List.Mem.tail _ (List.Mem.head _))), (List.forall_mem_cons.mpr ⟨(List.Mem.tail _ (List.Mem.tail _ (List.Mem.tail _ (List.Mem.head _)))), (List.forall_mem_cons.mpr ⟨(List.Mem.tail _ (List.Mem.tail _ (List.Mem.tail _ (List.Mem.tail _ (List.Mem.head _))))), (List.forall_mem_cons.mpr ⟨(List.Mem.tail _ (List.Mem.tail _ (List.Mem.tail _ (List.Mem.tail _ (List.Mem.tail _ (List.Mem.head _)))))), (List.forall_mem_cons.mpr ⟨(List.Mem.tail _ (List.Mem.tail _ (List.Mem.tail _ (List.Mem.tail _ (List.Mem.tail _ (List.Mem.tail _ (List.Mem.head _))))))), (fun q h => absurd h List.not_mem_nil)⟩)⟩)⟩)⟩)⟩) (hk A _ Is17 JRLx_s17 JFEQ_s17 JRWJ_s17 JFTK_s17 JARJ_s17 JPTJ_s17 (by first | exact oq_f34933ba ws17_89 ws13_89 p1 b10.1 | omega) (by first | exact oq_d7ce4408 ws17_12 ws13_12 p2 | omega) (by first | exact oq_5bcdc35f ws17_74 ws17_0 ws13_74 ws13_0 p3 | omega) (by first | exact oq_5bcdc35f ws17_90 ws17_9 ws13_90 ws13_9 p4 | omega) (by first | exact oq_5bcdc35f ws17_98 ws17_20 ws13_98 ws13_20 p5 | omega) (by first | exact oq_5bcdc35f ws17_107 ws17_70 ws13_107 ws13_70 p6 | omega))
theorem lc_24 (G : GX l s0 D tys a0 dT) (GR : RS0 s0) (SF : SF0 s0) (GT : TXs0 s0) (GW : TXw0 s0) {k : kx_T} (X : AX k 350 dT) (E : kL k = l ∧ kS0 k = s0 ∧ kD k = D ∧ kR k = room_1) {q1 L : Nat} {xs : Nat → Int32} (S : SX k q1 L xs) (hL : L ≤ 3072) (I : Bd s) (jR : RLx s) (jFEQ : FEQ s) (jRWJ : RWJ s) (jFTK : FTK s) (jARJ : ARJ s) (jPTJ : PTJ s) (p1 : iI s 89 = 1) (p2 : iI s 12 ≤ 8) (p3 : iI s 0 = iI s 74) (p4 : iI s 9 = iI s 90) (p5 : iI s 20 = iI s 98) (p6 : iI s 70 = iI s 107) {i : Int} (hi : 0 ≤ i ∧ i + 6 ≤ (L : Int)) {ce sl : Nat} (hce : ce + 29 ≤ 601024) (hsl : sl + 222 ≤ 7293034) (hk : ∀ (A : Nat → Nat) (t : PS), Bd t → RLx t → FEQ t → RWJ t → FTK t → ARJ t → PTJ t → iI t 89 = 1 → iI t 12 ≤ 8 → iI t 0 = iI t 74 → iI t 9 = iI t 90 → iI t 20 = iI t 98 → iI t 70 = iI t 107 → WS k 1894 [(0, .ref q1), (1, .ref (A 0)), (2, .ref (A 179)), (3, .ref (A 517)), (4, .int (Int32.ofInt i))] [] (Wd A dT t) (ce + 29) (sl + 222)) : WS k 1090 [(0, .ref q1), (1, .ref (A 0)), (2, .ref (A 179)), (3, .ref (A 517)), (4, .int (Int32.ofInt i))] [] (Wd A dT s) ce sl := by
  have F : Fm [28, 73, 97] [] s s := fm_rf _ _ s
  have b1 := bi_0 I
  have b2 := bi_74 I
  have b3 := bi_9 I
  have b4 := bi_90 I
  have b5 := bi_20 I
  have b6 := bi_98 I
  have b7 := bi_70 I
  have b8 := bi_107 I
  have b9 := bi_12 I
  have b10 := bi_89 I
  refine z_aload_n X (x := A 0) rfl (List.Mem.tail _ (List.Mem.head _)) (z_callV X 0 (rm := rmN 159) (As := []) (st := []) rfl rfl (by decide) rfl (by rw [E.1, E.2.1, E.2.2.1]; exact cs_clear G I ) ⟨by rw [E.2.2.2]; exact (show 6 + 1 ≤ 2048 from oq_4d34cb53), by rw [E.2.2.2]; exact (show 8 + (2 + 11) + 100 ≤ 84000 from oq_8731b8c0), by rw [E.2.2.2]; exact (show ce + 0 ≤ 601024 by omega), by rw [E.2.2.2]; exact (show sl + 0 ≤ 7293034 by omega)⟩ (Nat.le_of_ble_eq_true rfl) (fun vv s11 hq => ?_) (fun ee s11 hq => ?_))
  rotate_left
  · obtain ⟨Is11, Fs11, e12, hv, hrs11, hps11⟩ := hq; cases hv
  obtain ⟨Is11, Fs11, e12, hv, hrs11, hps11⟩ := hq
  cases hv
  have JRLx_s11 : RLx s11 := RLx_fm Fs11 (by decide) jR
  have JFEQ_s11 : FEQ s11 := FEQ_fm Fs11 (by decide) jFEQ
  have JRWJ_s11 : RWJ s11 := RWJ_fm Fs11 (by decide +kernel) jRWJ
  have JFTK_s11 : FTK s11 := FTK_fm Fs11 (by decide) jFTK
  have JARJ_s11 : ARJ s11 := ARJ_fm Fs11 ⟨by decide +kernel, by decide +kernel, by decide +kernel, by decide +kernel, by decide +kernel, by decide +kernel, by decide +kernel, by decide +kernel⟩ jARJ
  have JPTJ_s11 : PTJ s11 := PTJ_fm Fs11 (by decide +kernel) jPTJ
  have ws11_0 : iI s11 0 = iI s 0 := fm_iq Fs11 rfl
  have ws11_74 : iI s11 74 = iI s 74 := fm_iq Fs11 rfl
  have ws11_9 : iI s11 9 = iI s 9 := fm_iq Fs11 rfl
  have ws11_90 : iI s11 90 = iI s 90 := fm_iq Fs11 rfl
  have ws11_20 : iI s11 20 = iI s 20 := fm_iq Fs11 rfl
  have ws11_98 : iI s11 98 = iI s 98 := fm_iq Fs11 rfl
  have ws11_70 : iI s11 70 = iI s 70 := fm_iq Fs11 rfl
  have ws11_107 : iI s11 107 = iI s 107 := fm_iq Fs11 rfl
  have ws11_12 : iI s11 12 = iI s 12 := fm_iq Fs11 rfl
  have ws11_89 : iI s11 89 = iI s 89 := fm_iq Fs11 rfl
  have wos11 : iO s11 = iO s := fm_o Fs11 (by decide)
  show WS k 1094 [(0, .ref q1), (1, .ref (A 0)), (2, .ref (A 179)), (3, .ref (A 517)), (4, .int (Int32.ofInt i))] [.int (Int32.ofInt e12)] (Wd A dT s11) ce sl
  refine w_pop X.1 (ax_d X (show cdA 350 1094 = some (.pop, 1, 0, 0, 0) from rfl)) rfl (z_aload_n X (x := A 179) rfl (List.Mem.tail _ (List.Mem.tail _ (List.Mem.head _))) (z_callV X 179 (rm := rmN 259) (As := []) (st := []) rfl rfl (by decide) rfl (by rw [E.1, E.2.1, E.2.2.1]; exact k_clear G Is11 ) ⟨by rw [E.2.2.2]; exact (show 6 + 1 ≤ 2048 from oq_4d34cb53), by rw [E.2.2.2]; exact (show 8 + (2 + 11) + 100 ≤ 84000 from oq_8731b8c0), by rw [E.2.2.2]; exact (show ce + 0 ≤ 601024 by omega), by rw [E.2.2.2]; exact (show sl + 0 ≤ 7293034 by omega)⟩ (Nat.le_of_ble_eq_true rfl) (fun vv s13 hq => ?_) (fun ee s13 hq => ?_)))
  rotate_left
  · obtain ⟨Is13, Fs13, e14, hv, hrs13, hps13⟩ := hq; cases hv
  obtain ⟨Is13, Fs13, e14, hv, hrs13, hps13⟩ := hq
  cases hv
  have JRLx_s13 : RLx s13 := RLx_fm Fs13 (by decide) JRLx_s11
  have JFEQ_s13 : FEQ s13 := FEQ_fm Fs13 (by decide) JFEQ_s11
  have JRWJ_s13 : RWJ s13 := RWJ_fm Fs13 (by decide +kernel) JRWJ_s11
  have JFTK_s13 : FTK s13 := FTK_fm Fs13 (by decide) JFTK_s11
  have JARJ_s13 : ARJ s13 := ARJ_fm Fs13 ⟨by decide +kernel, by decide +kernel, by decide +kernel, by decide +kernel, by decide +kernel, by decide +kernel, by decide +kernel, by decide +kernel⟩ JARJ_s11
  have JPTJ_s13 : PTJ s13 := PTJ_fm Fs13 (by decide +kernel) JPTJ_s11
  have ws13_0 : iI s13 0 = iI s11 0 := fm_iq Fs13 rfl
  have ws13_74 : iI s13 74 = iI s11 74 := fm_iq Fs13 rfl
  have ws13_9 : iI s13 9 = iI s11 9 := fm_iq Fs13 rfl
  have ws13_90 : iI s13 90 = iI s11 90 := fm_iq Fs13 rfl
  have ws13_20 : iI s13 20 = iI s11 20 := fm_iq Fs13 rfl
  have ws13_98 : iI s13 98 = iI s11 98 := fm_iq Fs13 rfl
  have ws13_70 : iI s13 70 = iI s11 70 := fm_iq Fs13 rfl
  have ws13_107 : iI s13 107 = iI s11 107 := fm_iq Fs13 rfl
  have ws13_12 : iI s13 12 = iI s11 12 := fm_iq Fs13 rfl
  have ws13_89 : iI s13 89 = iI s11 89 := fm_iq Fs13 rfl
  have wos13 : iO s13 = iO s11 := fm_o Fs13 (by decide)
  show WS k 1099 [(0, .ref q1), (1, .ref (A 0)), (2, .ref (A 179)), (3, .ref (A 517)), (4, .int (Int32.ofInt i))] [.int (Int32.ofInt e14)] (Wd A dT s13) ce sl
  refine w_pop X.1 (ax_d X (show cdA 350 1099 = some (.pop, 1, 0, 0, 0) from rfl)) rfl (z_goto X (t := 1894) rfl rfl (w_widen (ce' := ce + 29) (sl' := sl + 222) (by first | exact Nat.le_add_right _ _ | exact Nat.add_le_add_left (by decide) _ | omega) (by first | exact Nat.le_add_right _ _ | exact Nat.add_le_add_left (by decide) _ | omega) ?_))
  exact WS_lv (lv := [(0, .ref q1), (1, .ref (A 0)), (2, .ref (A 179)), (3, .ref (A 517)), (4, .int (Int32.ofInt i))]) (List.forall_mem_cons.mpr ⟨(List.Mem.head _), (List.forall_mem_cons.mpr ⟨(List.Mem.tail _ (List.Mem.head _)), (List.forall_mem_cons.mpr ⟨(List.Mem.tail _ (List.Mem.tail _ (List.Mem.head _))), (List.forall_mem_cons.mpr ⟨(List.Mem.tail _ (List.Mem.tail _ (List.Mem.tail _ (List.Mem.head _)))), (List.forall_mem_cons.mpr ⟨(List.Mem.tail _ (List.Mem.tail _ (List.Mem.tail _ (List.Mem.tail _ (List.Mem.head _))))), (fun q h => absurd h List.not_mem_nil)⟩)⟩)⟩)⟩)⟩) (hk A _ Is13 JRLx_s13 JFEQ_s13 JRWJ_s13 JFTK_s13 JARJ_s13 JPTJ_s13 (by first | exact oq_f34933ba ws13_89 ws11_89 p1 b10.1 | omega) (by first | exact oq_d7ce4408 ws13_12 ws11_12 p2 | omega) (by first | exact oq_5bcdc35f ws13_74 ws13_0 ws11_74 ws11_0 p3 | omega) (by first | exact oq_5bcdc35f ws13_90 ws13_9 ws11_90 ws11_9 p4 | omega) (by first | exact oq_5bcdc35f ws13_98 ws13_20 ws11_98 ws11_20 p5 | omega) (by first | exact oq_5bcdc35f ws13_107 ws13_70 ws11_107 ws11_70 p6 | omega))
theorem lc_25 (G : GX l s0 D tys a0 dT) (GR : RS0 s0) (SF : SF0 s0) (GT : TXs0 s0) (GW : TXw0 s0) {k : kx_T} (X : AX k 350 dT) (E : kL k = l ∧ kS0 k = s0 ∧ kD k = D ∧ kR k = room_1) {q1 L : Nat} {xs : Nat → Int32} (S : SX k q1 L xs) (hL : L ≤ 3072) (I : Bd s) (jR : RLx s) (jFEQ : FEQ s) (jRWJ : RWJ s) (jFTK : FTK s) (jARJ : ARJ s) (jPTJ : PTJ s) (p1 : iI s 89 = 1) (p2 : iI s 12 ≤ 8) (p3 : iI s 0 = iI s 74) (p4 : iI s 9 = iI s 90) (p5 : iI s 20 = iI s 98) (p6 : iI s 70 = iI s 107) {i : Int} (hi : 0 ≤ i ∧ i + 6 ≤ (L : Int)) {ce sl : Nat} (hce : ce + 29 ≤ 601024) (hsl : sl + 222 ≤ 7293034) (hk : ∀ (A : Nat → Nat) (t : PS), Bd t → RLx t → FEQ t → RWJ t → FTK t → ARJ t → PTJ t → iI t 89 = 1 → iI t 12 ≤ 8 → iI t 0 = iI t 74 → iI t 9 = iI t 90 → iI t 20 = iI t 98 → iI t 70 = iI t 107 → WS k 1894 [(0, .ref q1), (1, .ref (A 0)), (2, .ref (A 179)), (3, .ref (A 517)), (4, .int (Int32.ofInt i))] [] (Wd A dT t) (ce + 29) (sl + 222)) : WS k 1103 [(0, .ref q1), (1, .ref (A 0)), (2, .ref (A 179)), (3, .ref (A 517)), (4, .int (Int32.ofInt i))] [] (Wd A dT s) ce sl := by
  have F : Fm [32, 73, 99] [46, 1460, 237] s s := fm_rf _ _ s
  have b1 := bi_0 I
  have b2 := bi_74 I
  have b3 := bi_9 I
  have b4 := bi_90 I
  have b5 := bi_20 I
  have b6 := bi_98 I
  have b7 := bi_70 I
  have b8 := bi_107 I
  have b9 := bi_12 I
  have b10 := bi_89 I
  refine z_aload_n X (x := A 0) rfl (List.Mem.tail _ (List.Mem.head _)) (z_aload_n X (x := q1) rfl (List.Mem.head _) (z_load X (x := i) rfl (List.Mem.tail _ (List.Mem.tail _ (List.Mem.tail _ (List.Mem.tail _ (List.Mem.head _))))) (z_const X rfl (z_add X rfl (z_sld X S hL rfl (show 0 ≤ (i + 1) ∧ (i + 1) < (L : Int) by first | exact sx_in hi (by decide) | omega) ?_)))))
  have sr11 : rng (sc xs (i + 1)) := sc_rng
  refine z_aload_n X (x := A 517) rfl (List.Mem.tail _ (List.Mem.tail _ (List.Mem.tail _ (List.Mem.head _)))) (z_callL X (rm := rmN 334) (As := [.ref (A 0), .int (Int32.ofInt (sc xs (i + 1))), .ref (A 517)]) (st := []) rfl (by decide) rfl (by rw [E.1, E.2.1, E.2.2.1]; exact lw_configure G I (by omega)) ⟨by rw [E.2.2.2]; exact (show 8 + 1 ≤ 2048 by decide), by rw [E.2.2.2]; exact (show 8 + (4 + 11) + 144 ≤ 84000 by decide), by rw [E.2.2.2]; exact (show ce + 1 ≤ 601024 by first | exact rmo_1 hce (by decide) | exact rmo_2 hce (by decide) | omega), by rw [E.2.2.2]; exact (show sl + 6 ≤ 7293034 by first | exact rmo_1 hsl (by decide) | exact rmo_2 hsl (by decide) | omega)⟩ (Nat.le_of_ble_eq_true rfl) (fun vv A s12 hA2 hq => ?_) (fun ee A s12 hA2 hq => ?_))
  rotate_left
  · obtain ⟨Is12, Fs12, e13, hv, hrs12, hps12⟩ := hq; cases hv
  obtain ⟨Is12, Fs12, e13, hv, hrs12, hps12⟩ := hq
  cases hv
  rw [← hA2 0 (by decide)]
  rw [← hA2 179 (by decide)]
  rw [← hA2 517 (by decide)]
  have JRLx_s12 : RLx s12 := RLx_fm Fs12 (by decide) jR
  have JFEQ_s12 : FEQ s12 := FEQ_fm Fs12 (by decide) jFEQ
  have JRWJ_s12 : RWJ s12 := RWJ_fm Fs12 (by decide +kernel) jRWJ
  have JFTK_s12 : FTK s12 := FTK_fm Fs12 (by decide) jFTK
  have JARJ_s12 : ARJ s12 := ARJ_fm Fs12 ⟨by decide +kernel, by decide +kernel, by decide +kernel, by decide +kernel, by decide +kernel, by decide +kernel, by decide +kernel, by decide +kernel⟩ jARJ
  have JPTJ_s12 : PTJ s12 := PTJ_fm Fs12 (by decide +kernel) jPTJ
  have ws12_0 : iI s12 0 = iI s 0 := fm_iq Fs12 rfl
  have ws12_74 : iI s12 74 = iI s 74 := fm_iq Fs12 rfl
  have ws12_9 : iI s12 9 = iI s 9 := fm_iq Fs12 rfl
  have ws12_90 : iI s12 90 = iI s 90 := fm_iq Fs12 rfl
  have ws12_20 : iI s12 20 = iI s 20 := fm_iq Fs12 rfl
  have ws12_98 : iI s12 98 = iI s 98 := fm_iq Fs12 rfl
  have ws12_70 : iI s12 70 = iI s 70 := fm_iq Fs12 rfl
  have ws12_107 : iI s12 107 = iI s 107 := fm_iq Fs12 rfl
  have ws12_12 : iI s12 12 = iI s 12 := fm_iq Fs12 rfl
  have ws12_89 : iI s12 89 = iI s 89 := fm_iq Fs12 rfl
  show WS k 1114 [(0, .ref q1), (1, .ref (A 0)), (2, .ref (A 179)), (3, .ref (A 517)), (4, .int (Int32.ofInt i))] [.int (Int32.ofInt e13)] (Wd A dT s12) (ce + 1) (sl + 6)
  refine z_store X (lv' := [(5, .int (Int32.ofInt e13)), (0, .ref q1), (1, .ref (A 0)), (2, .ref (A 179)), (3, .ref (A 517)), (4, .int (Int32.ofInt i))]) rfl (by decide) (fun _ h => h) (z_aload_n X (x := A 179) rfl (List.Mem.tail _ (List.Mem.tail _ (List.Mem.tail _ (List.Mem.head _)))) (z_aload_n X (x := q1) rfl (List.Mem.tail _ (List.Mem.head _)) (z_load X (x := i) rfl (List.Mem.tail _ (List.Mem.tail _ (List.Mem.tail _ (List.Mem.tail _ (List.Mem.tail _ (List.Mem.head _)))))) (z_const X rfl (z_add X rfl (z_sld X S hL rfl (show 0 ≤ (i + 1) ∧ (i + 1) < (L : Int) by first | exact sx_in hi (by decide) | omega) ?_))))))
  have sr14 : rng (sc xs (i + 1)) := sc_rng
  refine z_callV X 179 (rm := rmN 264) (As := [.int (Int32.ofInt (sc xs (i + 1)))]) (st := []) rfl rfl (by decide) rfl (by rw [E.1, E.2.1, E.2.2.1]; exact k_configure G Is12 (by first | exact ⟨sr14.1, sr14.2⟩ | omega)) ⟨by rw [E.2.2.2]; exact (show 7 + 1 ≤ 2048 from oq_4e6106eb), by rw [E.2.2.2]; exact (show 8 + (2 + 11) + 122 ≤ 84000 from oq_f09e007f), by rw [E.2.2.2]; exact (show (ce + 1) + 0 ≤ 601024 by omega), by rw [E.2.2.2]; exact (show (sl + 6) + 0 ≤ 7293034 by omega)⟩ (Nat.le_of_ble_eq_true rfl) (fun vv s15 hq => ?_) (fun ee s15 hq => ?_)
  rotate_left
  · obtain ⟨Is15, Fs15, e16, hv, hrs15, hps15⟩ := hq; cases hv
  obtain ⟨Is15, Fs15, e16, hv, hrs15, hps15⟩ := hq
  cases hv
  have JRLx_s15 : RLx s15 := RLx_fm Fs15 (by decide) JRLx_s12
  have JFEQ_s15 : FEQ s15 := FEQ_fm Fs15 (by decide) JFEQ_s12
  have JRWJ_s15 : RWJ s15 := RWJ_fm Fs15 (by decide +kernel) JRWJ_s12
  have JFTK_s15 : FTK s15 := FTK_fm Fs15 (by decide) JFTK_s12
  have JARJ_s15 : ARJ s15 := ARJ_fm Fs15 ⟨by decide +kernel, by decide +kernel, by decide +kernel, by decide +kernel, by decide +kernel, by decide +kernel, by decide +kernel, by decide +kernel⟩ JARJ_s12
  have JPTJ_s15 : PTJ s15 := PTJ_fm Fs15 (by decide +kernel) JPTJ_s12
  have ws15_0 : iI s15 0 = iI s12 0 := fm_iq Fs15 rfl
  have ws15_74 : iI s15 74 = iI s12 74 := fm_iq Fs15 rfl
  have ws15_9 : iI s15 9 = iI s12 9 := fm_iq Fs15 rfl
  have ws15_90 : iI s15 90 = iI s12 90 := fm_iq Fs15 rfl
  have ws15_20 : iI s15 20 = iI s12 20 := fm_iq Fs15 rfl
  have ws15_98 : iI s15 98 = iI s12 98 := fm_iq Fs15 rfl
  have ws15_70 : iI s15 70 = iI s12 70 := fm_iq Fs15 rfl
  have ws15_107 : iI s15 107 = iI s12 107 := fm_iq Fs15 rfl
  have ws15_12 : iI s15 12 = iI s12 12 := fm_iq Fs15 rfl
  have ws15_89 : iI s15 89 = iI s12 89 := fm_iq Fs15 rfl
  have wos15 : iO s15 = iO s12 := fm_o Fs15 (by decide)
  show WS k 1126 [(5, .int (Int32.ofInt e13)), (0, .ref q1), (1, .ref (A 0)), (2, .ref (A 179)), (3, .ref (A 517)), (4, .int (Int32.ofInt i))] [.int (Int32.ofInt e16)] (Wd A dT s15) (ce + 1) (sl + 6)
  refine z_store X (lv' := [(6, .int (Int32.ofInt e16)), (5, .int (Int32.ofInt e13)), (0, .ref q1), (1, .ref (A 0)), (2, .ref (A 179)), (3, .ref (A 517)), (4, .int (Int32.ofInt i))]) rfl (by decide) (fun _ h => h) (z_goto X (t := 1894) rfl rfl (w_widen (ce' := ce + 29) (sl' := sl + 222) (by first | exact Nat.le_add_right _ _ | exact Nat.add_le_add_left (by decide) _ | omega) (by first | exact Nat.le_add_right _ _ | exact Nat.add_le_add_left (by decide) _ | omega) ?_))
  exact WS_lv (lv := [(0, .ref q1), (1, .ref (A 0)), (2, .ref (A 179)), (3, .ref (A 517)), (4, .int (Int32.ofInt i))]) (List.forall_mem_cons.mpr ⟨(List.Mem.tail _ (List.Mem.tail _ (List.Mem.head _))), (List.forall_mem_cons.mpr ⟨(List.Mem.tail _ (List.Mem.tail _ (List.Mem.tail _ (List.Mem.head _)))), (List.forall_mem_cons.mpr ⟨(List.Mem.tail _ (List.Mem.tail _ (List.Mem.tail _ (List.Mem.tail _ (List.Mem.head _))))), (List.forall_mem_cons.mpr ⟨(List.Mem.tail _ (List.Mem.tail _ (List.Mem.tail _ (List.Mem.tail _ (List.Mem.tail _ (List.Mem.head _)))))), (List.forall_mem_cons.mpr ⟨(List.Mem.tail _ (List.Mem.tail _ (List.Mem.tail _ (List.Mem.tail _ (List.Mem.tail _ (List.Mem.tail _ (List.Mem.head _))))))), (fun q h => absurd h List.not_mem_nil)⟩)⟩)⟩)⟩)⟩) (hk A _ Is15 JRLx_s15 JFEQ_s15 JRWJ_s15 JFTK_s15 JARJ_s15 JPTJ_s15 (by first | exact oq_f34933ba ws15_89 ws12_89 p1 b10.1 | omega) (by first | exact oq_d7ce4408 ws15_12 ws12_12 p2 | omega) (by first | exact oq_5bcdc35f ws15_74 ws15_0 ws12_74 ws12_0 p3 | omega) (by first | exact oq_5bcdc35f ws15_90 ws15_9 ws12_90 ws12_9 p4 | omega) (by first | exact oq_5bcdc35f ws15_98 ws15_20 ws12_98 ws12_20 p5 | omega) (by first | exact oq_5bcdc35f ws15_107 ws15_70 ws12_107 ws12_70 p6 | omega))
theorem lc_26 (G : GX l s0 D tys a0 dT) (GR : RS0 s0) (SF : SF0 s0) (GT : TXs0 s0) (GW : TXw0 s0) {k : kx_T} (X : AX k 350 dT) (E : kL k = l ∧ kS0 k = s0 ∧ kD k = D ∧ kR k = room_1) {q1 L : Nat} {xs : Nat → Int32} (S : SX k q1 L xs) (hL : L ≤ 3072) (I : Bd s) (jR : RLx s) (jFEQ : FEQ s) (jRWJ : RWJ s) (jFTK : FTK s) (jARJ : ARJ s) (jPTJ : PTJ s) (p1 : iI s 89 = 1) (p2 : iI s 12 ≤ 8) (p3 : iI s 0 = iI s 74) (p4 : iI s 9 = iI s 90) (p5 : iI s 20 = iI s 98) (p6 : iI s 70 = iI s 107) {i : Int} (hi : 0 ≤ i ∧ i + 6 ≤ (L : Int)) {ce sl : Nat} (hce : ce + 29 ≤ 601024) (hsl : sl + 222 ≤ 7293034) (hk : ∀ (A : Nat → Nat) (t : PS), Bd t → RLx t → FEQ t → RWJ t → FTK t → ARJ t → PTJ t → iI t 89 = 1 → iI t 12 ≤ 8 → iI t 0 = iI t 74 → iI t 9 = iI t 90 → iI t 20 = iI t 98 → iI t 70 = iI t 107 → WS k 1894 [(0, .ref q1), (1, .ref (A 0)), (2, .ref (A 179)), (3, .ref (A 517)), (4, .int (Int32.ofInt i))] [] (Wd A dT t) (ce + 29) (sl + 222)) : WS k 1131 [(0, .ref q1), (1, .ref (A 0)), (2, .ref (A 179)), (3, .ref (A 517)), (4, .int (Int32.ofInt i))] [] (Wd A dT s) ce sl := by
  have F : Fm [22, 23, 24, 73, 89, 77, 75, 78, 79, 80, 81] [33, 26, 27, 28, 29, 30, 31, 32, 20, 48, 47, 1460, 202, 204, 205, 206, 207, 208, 209, 210, 211, 212, 213, 214, 215, 216, 217, 218, 219, 220, 221, 222, 223, 224, 225, 226, 227, 203, 161, 230] s s := fm_rf _ _ s
  have b1 := bi_0 I
  have b2 := bi_74 I
  have b3 := bi_9 I
  have b4 := bi_90 I
  have b5 := bi_20 I
  have b6 := bi_98 I
  have b7 := bi_70 I
  have b8 := bi_107 I
  have b9 := bi_12 I
  have b10 := bi_89 I
  refine z_aload_n X (x := A 0) rfl (List.Mem.tail _ (List.Mem.head _)) (z_aload_n X (x := q1) rfl (List.Mem.head _) (z_load X (x := i) rfl (List.Mem.tail _ (List.Mem.tail _ (List.Mem.tail _ (List.Mem.tail _ (List.Mem.head _))))) (z_const X rfl (z_add X rfl (z_sld X S hL rfl (show 0 ≤ (i + 1) ∧ (i + 1) < (L : Int) by first | exact sx_in hi (by decide) | omega) ?_)))))
  have sr11 : rng (sc xs (i + 1)) := sc_rng
  refine z_aload_n X (x := q1) rfl (List.Mem.head _) (z_load X (x := i) rfl (List.Mem.tail _ (List.Mem.tail _ (List.Mem.tail _ (List.Mem.tail _ (List.Mem.head _))))) (z_const X rfl (z_add X rfl (z_sld X S hL rfl (show 0 ≤ (i + 2) ∧ (i + 2) < (L : Int) by first | exact sx_in hi (by decide) | omega) ?_))))
  have sr12 : rng (sc xs (i + 2)) := sc_rng
  refine z_aload_n X (x := A 517) rfl (List.Mem.tail _ (List.Mem.tail _ (List.Mem.tail _ (List.Mem.head _)))) (z_callL X (rm := rmN 335) (As := [.ref (A 0), .int (Int32.ofInt (sc xs (i + 1))), .int (Int32.ofInt (sc xs (i + 2))), .ref (A 517)]) (st := []) rfl (by decide) rfl (by rw [E.1, E.2.1, E.2.2.1]; exact lw_pairs G I (by omega) (by omega) (by omega)) ⟨by rw [E.2.2.2]; exact (show 12 + 1 ≤ 2048 by decide), by rw [E.2.2.2]; exact (show 8 + (5 + 11) + 248 ≤ 84000 by decide), by rw [E.2.2.2]; exact (show ce + 2 ≤ 601024 by first | exact rmo_1 hce (by decide) | exact rmo_2 hce (by decide) | omega), by rw [E.2.2.2]; exact (show sl + 12 ≤ 7293034 by first | exact rmo_1 hsl (by decide) | exact rmo_2 hsl (by decide) | omega)⟩ (Nat.le_of_ble_eq_true rfl) (fun vv A s13 hA2 hq => ?_) (fun ee A s13 hA2 hq => ?_))
  rotate_left
  · obtain ⟨Is13, Fs13, e14, hv, hrs13, hps13⟩ := hq; cases hv
  obtain ⟨Is13, Fs13, e14, hv, hrs13, hps13⟩ := hq
  cases hv
  rw [← hA2 0 (by decide)]
  rw [← hA2 179 (by decide)]
  rw [← hA2 517 (by decide)]
  have JRLx_s13 : RLx s13 := RLx_fm Fs13 (by decide) jR
  have JFEQ_s13 : FEQ s13 := FEQ_fm Fs13 (by decide) jFEQ
  have JRWJ_s13 : RWJ s13 := RWJ_fm Fs13 (by decide +kernel) jRWJ
  have JFTK_s13 : FTK s13 := FTK_fm Fs13 (by decide) jFTK
  have JARJ_s13 : ARJ s13 := ARJ_fm Fs13 ⟨by decide +kernel, by decide +kernel, by decide +kernel, by decide +kernel, by decide +kernel, by decide +kernel, by decide +kernel, by decide +kernel⟩ jARJ
  have JPTJ_s13 : PTJ s13 := PTJ_fm Fs13 (by decide +kernel) jPTJ
  have ws13_0 : iI s13 0 = iI s 0 := fm_iq Fs13 rfl
  have ws13_74 : iI s13 74 = iI s 74 := fm_iq Fs13 rfl
  have ws13_9 : iI s13 9 = iI s 9 := fm_iq Fs13 rfl
  have ws13_90 : iI s13 90 = iI s 90 := fm_iq Fs13 rfl
  have ws13_20 : iI s13 20 = iI s 20 := fm_iq Fs13 rfl
  have ws13_98 : iI s13 98 = iI s 98 := fm_iq Fs13 rfl
  have ws13_70 : iI s13 70 = iI s 70 := fm_iq Fs13 rfl
  have ws13_107 : iI s13 107 = iI s 107 := fm_iq Fs13 rfl
  have ws13_12 : iI s13 12 = iI s 12 := fm_iq Fs13 rfl
  have ws13_89 : iI s13 89 = iI s 89 := fm_iq Fs13 rfl
  show WS k 1148 [(0, .ref q1), (1, .ref (A 0)), (2, .ref (A 179)), (3, .ref (A 517)), (4, .int (Int32.ofInt i))] [.int (Int32.ofInt e14)] (Wd A dT s13) (ce + 2) (sl + 12)
  refine z_store X (lv' := [(5, .int (Int32.ofInt e14)), (0, .ref q1), (1, .ref (A 0)), (2, .ref (A 179)), (3, .ref (A 517)), (4, .int (Int32.ofInt i))]) rfl (by decide) (fun _ h => h) (z_aload_n X (x := A 179) rfl (List.Mem.tail _ (List.Mem.tail _ (List.Mem.tail _ (List.Mem.head _)))) (z_aload_n X (x := q1) rfl (List.Mem.tail _ (List.Mem.head _)) (z_load X (x := i) rfl (List.Mem.tail _ (List.Mem.tail _ (List.Mem.tail _ (List.Mem.tail _ (List.Mem.tail _ (List.Mem.head _)))))) (z_const X rfl (z_add X rfl (z_sld X S hL rfl (show 0 ≤ (i + 1) ∧ (i + 1) < (L : Int) by first | exact sx_in hi (by decide) | omega) ?_))))))
  have sr15 : rng (sc xs (i + 1)) := sc_rng
  refine z_aload_n X (x := q1) rfl (List.Mem.tail _ (List.Mem.head _)) (z_load X (x := i) rfl (List.Mem.tail _ (List.Mem.tail _ (List.Mem.tail _ (List.Mem.tail _ (List.Mem.tail _ (List.Mem.head _)))))) (z_const X rfl (z_add X rfl (z_sld X S hL rfl (show 0 ≤ (i + 2) ∧ (i + 2) < (L : Int) by first | exact sx_in hi (by decide) | omega) ?_))))
  have sr16 : rng (sc xs (i + 2)) := sc_rng
  refine z_callV X 179 (rm := rmN 267) (As := [.int (Int32.ofInt (sc xs (i + 1))), .int (Int32.ofInt (sc xs (i + 2)))]) (st := []) rfl rfl (by decide) rfl (by rw [E.1, E.2.1, E.2.2.1]; exact k_pairs G Is13 JRLx_s13 (by first | exact ⟨sr15.1, sr15.2⟩ | omega) (by first | exact ⟨sr16.1, sr16.2⟩ | omega)) ⟨by rw [E.2.2.2]; exact (show 62 + 1 ≤ 2048 from oq_03e28196), by rw [E.2.2.2]; exact (show 8 + (3 + 11) + 2686 ≤ 84000 from oq_1f8b0a4c), by rw [E.2.2.2]; exact (show (ce + 2) + 0 ≤ 601024 by omega), by rw [E.2.2.2]; exact (show (sl + 12) + 0 ≤ 7293034 by omega)⟩ (Nat.le_of_ble_eq_true rfl) (fun vv s17 hq => ?_) (fun ee s17 hq => ?_)
  rotate_left
  · obtain ⟨Is17, Fs17, JRLx_s17, e18, hv, hrs17, hps17⟩ := hq; cases hv
  obtain ⟨Is17, Fs17, JRLx_s17, e18, hv, hrs17, hps17⟩ := hq
  cases hv
  have JRLx_s17 : RLx s17 := RLx_fm Fs17 (by decide) JRLx_s13
  have JFEQ_s17 : FEQ s17 := FEQ_fm Fs17 (by decide) JFEQ_s13
  have JRWJ_s17 : RWJ s17 := RWJ_fm Fs17 (by decide +kernel) JRWJ_s13
  have JFTK_s17 : FTK s17 := FTK_fm Fs17 (by decide) JFTK_s13
  have JARJ_s17 : ARJ s17 := ARJ_fm Fs17 ⟨by decide +kernel, by decide +kernel, by decide +kernel, by decide +kernel, by decide +kernel, by decide +kernel, by decide +kernel, by decide +kernel⟩ JARJ_s13
  have JPTJ_s17 : PTJ s17 := PTJ_fm Fs17 (by decide +kernel) JPTJ_s13
  have ws17_0 : iI s17 0 = iI s13 0 := fm_iq Fs17 rfl
  have ws17_74 : iI s17 74 = iI s13 74 := fm_iq Fs17 rfl
  have ws17_9 : iI s17 9 = iI s13 9 := fm_iq Fs17 rfl
  have ws17_90 : iI s17 90 = iI s13 90 := fm_iq Fs17 rfl
  have ws17_20 : iI s17 20 = iI s13 20 := fm_iq Fs17 rfl
  have ws17_98 : iI s17 98 = iI s13 98 := fm_iq Fs17 rfl
  have ws17_70 : iI s17 70 = iI s13 70 := fm_iq Fs17 rfl
  have ws17_107 : iI s17 107 = iI s13 107 := fm_iq Fs17 rfl
  have ws17_12 : iI s17 12 = iI s13 12 := fm_iq Fs17 rfl
  have b19 := bi_89 Is17
  have wos17 : iO s17 = iO s13 := fm_o Fs17 (by decide)
  replace hps17 := hps17 (by clear hps17; omega)
  show WS k 1166 [(5, .int (Int32.ofInt e14)), (0, .ref q1), (1, .ref (A 0)), (2, .ref (A 179)), (3, .ref (A 517)), (4, .int (Int32.ofInt i))] [.int (Int32.ofInt e18)] (Wd A dT s17) (ce + 2) (sl + 12)
  refine z_store X (lv' := [(6, .int (Int32.ofInt e18)), (5, .int (Int32.ofInt e14)), (0, .ref q1), (1, .ref (A 0)), (2, .ref (A 179)), (3, .ref (A 517)), (4, .int (Int32.ofInt i))]) rfl (by decide) (fun _ h => h) (z_goto X (t := 1894) rfl rfl (w_widen (ce' := ce + 29) (sl' := sl + 222) (by first | exact Nat.le_add_right _ _ | exact Nat.add_le_add_left (by decide) _ | omega) (by first | exact Nat.le_add_right _ _ | exact Nat.add_le_add_left (by decide) _ | omega) ?_))
  exact WS_lv (lv := [(0, .ref q1), (1, .ref (A 0)), (2, .ref (A 179)), (3, .ref (A 517)), (4, .int (Int32.ofInt i))]) (List.forall_mem_cons.mpr ⟨(List.Mem.tail _ (List.Mem.tail _ (List.Mem.head _))), (List.forall_mem_cons.mpr ⟨(List.Mem.tail _ (List.Mem.tail _ (List.Mem.tail _ (List.Mem.head _)))), (List.forall_mem_cons.mpr ⟨(List.Mem.tail _ (List.Mem.tail _ (List.Mem.tail _ (List.Mem.tail _ (List.Mem.head _))))), (List.forall_mem_cons.mpr ⟨(List.Mem.tail _ (List.Mem.tail _ (List.Mem.tail _ (List.Mem.tail _ (List.Mem.tail _ (List.Mem.head _)))))), (List.forall_mem_cons.mpr ⟨(List.Mem.tail _ (List.Mem.tail _ (List.Mem.tail _ (List.Mem.tail _ (List.Mem.tail _ (List.Mem.tail _ (List.Mem.head _))))))), (fun q h => absurd h List.not_mem_nil)⟩)⟩)⟩)⟩)⟩) (hk A _ Is17 JRLx_s17 JFEQ_s17 JRWJ_s17 JFTK_s17 JARJ_s17 JPTJ_s17 (by first | exact oq_e8f78630 b19.1 hps17 ws13_89 b10.1 p1 | omega) (by first | exact oq_d7ce4408 ws17_12 ws13_12 p2 | omega) (by first | exact oq_5bcdc35f ws17_74 ws17_0 ws13_74 ws13_0 p3 | omega) (by first | exact oq_5bcdc35f ws17_90 ws17_9 ws13_90 ws13_9 p4 | omega) (by first | exact oq_5bcdc35f ws17_98 ws17_20 ws13_98 ws13_20 p5 | omega) (by first | exact oq_5bcdc35f ws17_107 ws17_70 ws13_107 ws13_70 p6 | omega))
theorem lc_27 (G : GX l s0 D tys a0 dT) (GR : RS0 s0) (SF : SF0 s0) (GT : TXs0 s0) (GW : TXw0 s0) {k : kx_T} (X : AX k 350 dT) (E : kL k = l ∧ kS0 k = s0 ∧ kD k = D ∧ kR k = room_1) {q1 L : Nat} {xs : Nat → Int32} (S : SX k q1 L xs) (hL : L ≤ 3072) (I : Bd s) (jR : RLx s) (jFEQ : FEQ s) (jRWJ : RWJ s) (jFTK : FTK s) (jARJ : ARJ s) (jPTJ : PTJ s) (p1 : iI s 89 = 1) (p2 : iI s 12 ≤ 8) (p3 : iI s 0 = iI s 74) (p4 : iI s 9 = iI s 90) (p5 : iI s 20 = iI s 98) (p6 : iI s 70 = iI s 107) {i : Int} (hi : 0 ≤ i ∧ i + 6 ≤ (L : Int)) {ce sl : Nat} (hce : ce + 29 ≤ 601024) (hsl : sl + 222 ≤ 7293034) (hk : ∀ (A : Nat → Nat) (t : PS), Bd t → RLx t → FEQ t → RWJ t → FTK t → ARJ t → PTJ t → iI t 89 = 1 → iI t 12 ≤ 8 → iI t 0 = iI t 74 → iI t 9 = iI t 90 → iI t 20 = iI t 98 → iI t 70 = iI t 107 → WS k 1894 [(0, .ref q1), (1, .ref (A 0)), (2, .ref (A 179)), (3, .ref (A 517)), (4, .int (Int32.ofInt i))] [] (Wd A dT t) (ce + 29) (sl + 222)) : WS k 1171 [(0, .ref q1), (1, .ref (A 0)), (2, .ref (A 179)), (3, .ref (A 517)), (4, .int (Int32.ofInt i))] [] (Wd A dT s) ce sl := by
  have F : Fm [33, 73, 96] [1460] s s := fm_rf _ _ s
  have b1 := bi_0 I
  have b2 := bi_74 I
  have b3 := bi_9 I
  have b4 := bi_90 I
  have b5 := bi_20 I
  have b6 := bi_98 I
  have b7 := bi_70 I
  have b8 := bi_107 I
  have b9 := bi_12 I
  have b10 := bi_89 I
  refine z_aload_n X (x := A 0) rfl (List.Mem.tail _ (List.Mem.head _)) (z_aload_n X (x := q1) rfl (List.Mem.head _) (z_load X (x := i) rfl (List.Mem.tail _ (List.Mem.tail _ (List.Mem.tail _ (List.Mem.tail _ (List.Mem.head _))))) (z_const X rfl (z_add X rfl (z_sld X S hL rfl (show 0 ≤ (i + 1) ∧ (i + 1) < (L : Int) by first | exact sx_in hi (by decide) | omega) ?_)))))
  have sr11 : rng (sc xs (i + 1)) := sc_rng
  refine z_aload_n X (x := A 517) rfl (List.Mem.tail _ (List.Mem.tail _ (List.Mem.tail _ (List.Mem.head _)))) (z_callL X (rm := rmN 336) (As := [.ref (A 0), .int (Int32.ofInt (sc xs (i + 1))), .ref (A 517)]) (st := []) rfl (by decide) rfl (by rw [E.1, E.2.1, E.2.2.1]; exact lw_busy G I (by omega)) ⟨by rw [E.2.2.2]; exact (show 8 + 1 ≤ 2048 by decide), by rw [E.2.2.2]; exact (show 8 + (4 + 11) + 145 ≤ 84000 by decide), by rw [E.2.2.2]; exact (show ce + 1 ≤ 601024 by first | exact rmo_1 hce (by decide) | exact rmo_2 hce (by decide) | omega), by rw [E.2.2.2]; exact (show sl + 6 ≤ 7293034 by first | exact rmo_1 hsl (by decide) | exact rmo_2 hsl (by decide) | omega)⟩ (Nat.le_of_ble_eq_true rfl) (fun vv A s12 hA2 hq => ?_) (fun ee A s12 hA2 hq => ?_))
  rotate_left
  · obtain ⟨Is12, Fs12, e13, hv, hrs12, hps12⟩ := hq; cases hv
  obtain ⟨Is12, Fs12, e13, hv, hrs12, hps12⟩ := hq
  cases hv
  rw [← hA2 0 (by decide)]
  rw [← hA2 179 (by decide)]
  rw [← hA2 517 (by decide)]
  have JRLx_s12 : RLx s12 := RLx_fm Fs12 (by decide) jR
  have JFEQ_s12 : FEQ s12 := FEQ_fm Fs12 (by decide) jFEQ
  have JRWJ_s12 : RWJ s12 := RWJ_fm Fs12 (by decide +kernel) jRWJ
  have JFTK_s12 : FTK s12 := FTK_fm Fs12 (by decide) jFTK
  have JARJ_s12 : ARJ s12 := ARJ_fm Fs12 ⟨by decide +kernel, by decide +kernel, by decide +kernel, by decide +kernel, by decide +kernel, by decide +kernel, by decide +kernel, by decide +kernel⟩ jARJ
  have JPTJ_s12 : PTJ s12 := PTJ_fm Fs12 (by decide +kernel) jPTJ
  have ws12_0 : iI s12 0 = iI s 0 := fm_iq Fs12 rfl
  have ws12_74 : iI s12 74 = iI s 74 := fm_iq Fs12 rfl
  have ws12_9 : iI s12 9 = iI s 9 := fm_iq Fs12 rfl
  have ws12_90 : iI s12 90 = iI s 90 := fm_iq Fs12 rfl
  have ws12_20 : iI s12 20 = iI s 20 := fm_iq Fs12 rfl
  have ws12_98 : iI s12 98 = iI s 98 := fm_iq Fs12 rfl
  have ws12_70 : iI s12 70 = iI s 70 := fm_iq Fs12 rfl
  have ws12_107 : iI s12 107 = iI s 107 := fm_iq Fs12 rfl
  have ws12_12 : iI s12 12 = iI s 12 := fm_iq Fs12 rfl
  have ws12_89 : iI s12 89 = iI s 89 := fm_iq Fs12 rfl
  show WS k 1182 [(0, .ref q1), (1, .ref (A 0)), (2, .ref (A 179)), (3, .ref (A 517)), (4, .int (Int32.ofInt i))] [.int (Int32.ofInt e13)] (Wd A dT s12) (ce + 1) (sl + 6)
  refine z_store X (lv' := [(5, .int (Int32.ofInt e13)), (0, .ref q1), (1, .ref (A 0)), (2, .ref (A 179)), (3, .ref (A 517)), (4, .int (Int32.ofInt i))]) rfl (by decide) (fun _ h => h) (z_aload_n X (x := A 179) rfl (List.Mem.tail _ (List.Mem.tail _ (List.Mem.tail _ (List.Mem.head _)))) (z_aload_n X (x := q1) rfl (List.Mem.tail _ (List.Mem.head _)) (z_load X (x := i) rfl (List.Mem.tail _ (List.Mem.tail _ (List.Mem.tail _ (List.Mem.tail _ (List.Mem.tail _ (List.Mem.head _)))))) (z_const X rfl (z_add X rfl (z_sld X S hL rfl (show 0 ≤ (i + 1) ∧ (i + 1) < (L : Int) by first | exact sx_in hi (by decide) | omega) ?_))))))
  have sr14 : rng (sc xs (i + 1)) := sc_rng
  refine z_callV X 179 (rm := rmN 268) (As := [.int (Int32.ofInt (sc xs (i + 1)))]) (st := []) rfl rfl (by decide) rfl (by rw [E.1, E.2.1, E.2.2.1]; exact k_busy G Is12 (by first | exact ⟨sr14.1, sr14.2⟩ | omega)) ⟨by rw [E.2.2.2]; exact (show 7 + 1 ≤ 2048 from oq_4e6106eb), by rw [E.2.2.2]; exact (show 8 + (3 + 11) + 122 ≤ 84000 from oq_38d194b9), by rw [E.2.2.2]; exact (show (ce + 1) + 0 ≤ 601024 by omega), by rw [E.2.2.2]; exact (show (sl + 6) + 0 ≤ 7293034 by omega)⟩ (Nat.le_of_ble_eq_true rfl) (fun vv s15 hq => ?_) (fun ee s15 hq => ?_)
  rotate_left
  · obtain ⟨Is15, Fs15, e16, hv, hrs15, hps15⟩ := hq; cases hv
  obtain ⟨Is15, Fs15, e16, hv, hrs15, hps15⟩ := hq
  cases hv
  have JRLx_s15 : RLx s15 := RLx_fm Fs15 (by decide) JRLx_s12
  have JFEQ_s15 : FEQ s15 := FEQ_fm Fs15 (by decide) JFEQ_s12
  have JRWJ_s15 : RWJ s15 := RWJ_fm Fs15 (by decide +kernel) JRWJ_s12
  have JFTK_s15 : FTK s15 := FTK_fm Fs15 (by decide) JFTK_s12
  have JARJ_s15 : ARJ s15 := ARJ_fm Fs15 ⟨by decide +kernel, by decide +kernel, by decide +kernel, by decide +kernel, by decide +kernel, by decide +kernel, by decide +kernel, by decide +kernel⟩ JARJ_s12
  have JPTJ_s15 : PTJ s15 := PTJ_fm Fs15 (by decide +kernel) JPTJ_s12
  have ws15_0 : iI s15 0 = iI s12 0 := fm_iq Fs15 rfl
  have ws15_74 : iI s15 74 = iI s12 74 := fm_iq Fs15 rfl
  have ws15_9 : iI s15 9 = iI s12 9 := fm_iq Fs15 rfl
  have ws15_90 : iI s15 90 = iI s12 90 := fm_iq Fs15 rfl
  have ws15_20 : iI s15 20 = iI s12 20 := fm_iq Fs15 rfl
  have ws15_98 : iI s15 98 = iI s12 98 := fm_iq Fs15 rfl
  have ws15_70 : iI s15 70 = iI s12 70 := fm_iq Fs15 rfl
  have ws15_107 : iI s15 107 = iI s12 107 := fm_iq Fs15 rfl
  have ws15_12 : iI s15 12 = iI s12 12 := fm_iq Fs15 rfl
  have ws15_89 : iI s15 89 = iI s12 89 := fm_iq Fs15 rfl
  have wos15 : iO s15 = iO s12 := fm_o Fs15 (by decide)
  show WS k 1194 [(5, .int (Int32.ofInt e13)), (0, .ref q1), (1, .ref (A 0)), (2, .ref (A 179)), (3, .ref (A 517)), (4, .int (Int32.ofInt i))] [.int (Int32.ofInt e16)] (Wd A dT s15) (ce + 1) (sl + 6)
  refine z_store X (lv' := [(6, .int (Int32.ofInt e16)), (5, .int (Int32.ofInt e13)), (0, .ref q1), (1, .ref (A 0)), (2, .ref (A 179)), (3, .ref (A 517)), (4, .int (Int32.ofInt i))]) rfl (by decide) (fun _ h => h) (z_goto X (t := 1894) rfl rfl (w_widen (ce' := ce + 29) (sl' := sl + 222) (by first | exact Nat.le_add_right _ _ | exact Nat.add_le_add_left (by decide) _ | omega) (by first | exact Nat.le_add_right _ _ | exact Nat.add_le_add_left (by decide) _ | omega) ?_))
  exact WS_lv (lv := [(0, .ref q1), (1, .ref (A 0)), (2, .ref (A 179)), (3, .ref (A 517)), (4, .int (Int32.ofInt i))]) (List.forall_mem_cons.mpr ⟨(List.Mem.tail _ (List.Mem.tail _ (List.Mem.head _))), (List.forall_mem_cons.mpr ⟨(List.Mem.tail _ (List.Mem.tail _ (List.Mem.tail _ (List.Mem.head _)))), (List.forall_mem_cons.mpr ⟨(List.Mem.tail _ (List.Mem.tail _ (List.Mem.tail _ (List.Mem.tail _ (List.Mem.head _))))), (List.forall_mem_cons.mpr ⟨(List.Mem.tail _ (List.Mem.tail _ (List.Mem.tail _ (List.Mem.tail _ (List.Mem.tail _ (List.Mem.head _)))))), (List.forall_mem_cons.mpr ⟨(List.Mem.tail _ (List.Mem.tail _ (List.Mem.tail _ (List.Mem.tail _ (List.Mem.tail _ (List.Mem.tail _ (List.Mem.head _))))))), (fun q h => absurd h List.not_mem_nil)⟩)⟩)⟩)⟩)⟩) (hk A _ Is15 JRLx_s15 JFEQ_s15 JRWJ_s15 JFTK_s15 JARJ_s15 JPTJ_s15 (by first | exact oq_f34933ba ws15_89 ws12_89 p1 b10.1 | omega) (by first | exact oq_d7ce4408 ws15_12 ws12_12 p2 | omega) (by first | exact oq_5bcdc35f ws15_74 ws15_0 ws12_74 ws12_0 p3 | omega) (by first | exact oq_5bcdc35f ws15_90 ws15_9 ws12_90 ws12_9 p4 | omega) (by first | exact oq_5bcdc35f ws15_98 ws15_20 ws12_98 ws12_20 p5 | omega) (by first | exact oq_5bcdc35f ws15_107 ws15_70 ws12_107 ws12_70 p6 | omega))
theorem lc_28 (G : GX l s0 D tys a0 dT) (GR : RS0 s0) (SF : SF0 s0) (GT : TXs0 s0) (GW : TXw0 s0) {k : kx_T} (X : AX k 350 dT) (E : kL k = l ∧ kS0 k = s0 ∧ kD k = D ∧ kR k = room_1) {q1 L : Nat} {xs : Nat → Int32} (S : SX k q1 L xs) (hL : L ≤ 3072) (I : Bd s) (jR : RLx s) (jFEQ : FEQ s) (jRWJ : RWJ s) (jFTK : FTK s) (jARJ : ARJ s) (jPTJ : PTJ s) (p1 : iI s 89 = 1) (p2 : iI s 12 ≤ 8) (p3 : iI s 0 = iI s 74) (p4 : iI s 9 = iI s 90) (p5 : iI s 20 = iI s 98) (p6 : iI s 70 = iI s 107) {i : Int} (hi : 0 ≤ i ∧ i + 6 ≤ (L : Int)) {ce sl : Nat} (hce : ce + 29 ≤ 601024) (hsl : sl + 222 ≤ 7293034) (hk : ∀ (A : Nat → Nat) (t : PS), Bd t → RLx t → FEQ t → RWJ t → FTK t → ARJ t → PTJ t → iI t 89 = 1 → iI t 12 ≤ 8 → iI t 0 = iI t 74 → iI t 9 = iI t 90 → iI t 20 = iI t 98 → iI t 70 = iI t 107 → WS k 1894 [(0, .ref q1), (1, .ref (A 0)), (2, .ref (A 179)), (3, .ref (A 517)), (4, .int (Int32.ofInt i))] [] (Wd A dT t) (ce + 29) (sl + 222)) : WS k 1199 [(0, .ref q1), (1, .ref (A 0)), (2, .ref (A 179)), (3, .ref (A 517)), (4, .int (Int32.ofInt i))] [] (Wd A dT s) ce sl := by
  have F : Fm [22, 23, 24, 34, 35, 73, 77, 75, 78, 79, 80, 81, 89] [33, 26, 27, 28, 29, 30, 31, 32, 20, 48, 47, 49, 50, 51, 1460, 161, 230, 202, 204, 205, 206, 207, 208, 209, 210, 211, 212, 213, 214, 215, 216, 217, 218, 219, 220, 221, 222, 223, 224, 225, 226, 227, 203, 395, 396, 245, 246, 247, 248, 249, 250, 251, 252, 253, 254, 255, 256, 257, 258, 259, 260, 261, 262, 263, 264, 265, 266, 267, 268, 269, 270, 271, 272, 273, 274, 275, 276, 277, 278, 279, 280, 281, 282, 283, 284, 285, 286, 287, 288, 289, 290, 291, 292, 293, 294, 295, 296, 297, 298, 299, 300, 301, 302, 303, 304, 305, 306, 307, 308, 309, 310, 311, 312, 313, 314, 315, 316, 317, 318, 319, 320, 321, 322, 323, 324, 325, 326, 327, 328, 329, 330, 331, 332, 333, 334, 335, 336, 337, 338, 339, 340, 341, 342, 343, 344, 345, 346, 347, 348, 349, 350, 351, 352, 353, 354, 355, 356, 357, 358, 359, 360, 361, 362, 363, 364, 365, 366, 367, 368, 369, 370, 371, 372, 373, 374, 375, 376, 377, 378, 379, 380, 381, 382, 383, 384, 385, 386, 387, 388, 389, 390, 391, 392, 393, 394] s s := fm_rf _ _ s
  have b1 := bi_0 I
  have b2 := bi_74 I
  have b3 := bi_9 I
  have b4 := bi_90 I
  have b5 := bi_20 I
  have b6 := bi_98 I
  have b7 := bi_70 I
  have b8 := bi_107 I
  have b9 := bi_12 I
  have b10 := bi_89 I
  refine z_aload_n X (x := A 0) rfl (List.Mem.tail _ (List.Mem.head _)) (z_aload_n X (x := q1) rfl (List.Mem.head _) (z_load X (x := i) rfl (List.Mem.tail _ (List.Mem.tail _ (List.Mem.tail _ (List.Mem.tail _ (List.Mem.head _))))) (z_const X rfl (z_add X rfl (z_sld X S hL rfl (show 0 ≤ (i + 1) ∧ (i + 1) < (L : Int) by first | exact sx_in hi (by decide) | omega) ?_)))))
  have sr11 : rng (sc xs (i + 1)) := sc_rng
  refine z_aload_n X (x := q1) rfl (List.Mem.head _) (z_load X (x := i) rfl (List.Mem.tail _ (List.Mem.tail _ (List.Mem.tail _ (List.Mem.tail _ (List.Mem.head _))))) (z_const X rfl (z_add X rfl (z_sld X S hL rfl (show 0 ≤ (i + 2) ∧ (i + 2) < (L : Int) by first | exact sx_in hi (by decide) | omega) ?_))))
  have sr12 : rng (sc xs (i + 2)) := sc_rng
  refine z_aload_n X (x := A 517) rfl (List.Mem.tail _ (List.Mem.tail _ (List.Mem.tail _ (List.Mem.head _)))) (z_callL X (rm := rmN 337) (As := [.ref (A 0), .int (Int32.ofInt (sc xs (i + 1))), .int (Int32.ofInt (sc xs (i + 2))), .ref (A 517)]) (st := []) rfl (by decide) rfl (by rw [E.1, E.2.1, E.2.2.1]; exact lw_plan G I (by omega) (by omega) (by omega)) ⟨by rw [E.2.2.2]; exact (show 13 + 1 ≤ 2048 by decide), by rw [E.2.2.2]; exact (show 8 + (5 + 11) + 273 ≤ 84000 by decide), by rw [E.2.2.2]; exact (show ce + 2 ≤ 601024 by first | exact rmo_1 hce (by decide) | exact rmo_2 hce (by decide) | omega), by rw [E.2.2.2]; exact (show sl + 12 ≤ 7293034 by first | exact rmo_1 hsl (by decide) | exact rmo_2 hsl (by decide) | omega)⟩ (Nat.le_of_ble_eq_true rfl) (fun vv A s13 hA2 hq => ?_) (fun ee A s13 hA2 hq => ?_))
  rotate_left
  · obtain ⟨Is13, Fs13, e14, hv, hrs13, hps13⟩ := hq; cases hv
  obtain ⟨Is13, Fs13, e14, hv, hrs13, hps13⟩ := hq
  cases hv
  rw [← hA2 0 (by decide)]
  rw [← hA2 179 (by decide)]
  rw [← hA2 517 (by decide)]
  have JRLx_s13 : RLx s13 := RLx_fm Fs13 (by decide) jR
  have JFEQ_s13 : FEQ s13 := FEQ_fm Fs13 (by decide) jFEQ
  have JRWJ_s13 : RWJ s13 := RWJ_fm Fs13 (by decide +kernel) jRWJ
  have JFTK_s13 : FTK s13 := FTK_fm Fs13 (by decide) jFTK
  have JARJ_s13 : ARJ s13 := ARJ_fm Fs13 ⟨by decide +kernel, by decide +kernel, by decide +kernel, by decide +kernel, by decide +kernel, by decide +kernel, by decide +kernel, by decide +kernel⟩ jARJ
  have JPTJ_s13 : PTJ s13 := PTJ_fm Fs13 (by decide +kernel) jPTJ
  have ws13_0 : iI s13 0 = iI s 0 := fm_iq Fs13 rfl
  have ws13_74 : iI s13 74 = iI s 74 := fm_iq Fs13 rfl
  have ws13_9 : iI s13 9 = iI s 9 := fm_iq Fs13 rfl
  have ws13_90 : iI s13 90 = iI s 90 := fm_iq Fs13 rfl
  have ws13_20 : iI s13 20 = iI s 20 := fm_iq Fs13 rfl
  have ws13_98 : iI s13 98 = iI s 98 := fm_iq Fs13 rfl
  have ws13_70 : iI s13 70 = iI s 70 := fm_iq Fs13 rfl
  have ws13_107 : iI s13 107 = iI s 107 := fm_iq Fs13 rfl
  have ws13_12 : iI s13 12 = iI s 12 := fm_iq Fs13 rfl
  have ws13_89 : iI s13 89 = iI s 89 := fm_iq Fs13 rfl
  show WS k 1216 [(0, .ref q1), (1, .ref (A 0)), (2, .ref (A 179)), (3, .ref (A 517)), (4, .int (Int32.ofInt i))] [.int (Int32.ofInt e14)] (Wd A dT s13) (ce + 2) (sl + 12)
  refine z_store X (lv' := [(5, .int (Int32.ofInt e14)), (0, .ref q1), (1, .ref (A 0)), (2, .ref (A 179)), (3, .ref (A 517)), (4, .int (Int32.ofInt i))]) rfl (by decide) (fun _ h => h) (z_aload_n X (x := A 179) rfl (List.Mem.tail _ (List.Mem.tail _ (List.Mem.tail _ (List.Mem.head _)))) (z_aload_n X (x := q1) rfl (List.Mem.tail _ (List.Mem.head _)) (z_load X (x := i) rfl (List.Mem.tail _ (List.Mem.tail _ (List.Mem.tail _ (List.Mem.tail _ (List.Mem.tail _ (List.Mem.head _)))))) (z_const X rfl (z_add X rfl (z_sld X S hL rfl (show 0 ≤ (i + 1) ∧ (i + 1) < (L : Int) by first | exact sx_in hi (by decide) | omega) ?_))))))
  have sr15 : rng (sc xs (i + 1)) := sc_rng
  refine z_aload_n X (x := q1) rfl (List.Mem.tail _ (List.Mem.head _)) (z_load X (x := i) rfl (List.Mem.tail _ (List.Mem.tail _ (List.Mem.tail _ (List.Mem.tail _ (List.Mem.tail _ (List.Mem.head _)))))) (z_const X rfl (z_add X rfl (z_sld X S hL rfl (show 0 ≤ (i + 2) ∧ (i + 2) < (L : Int) by first | exact sx_in hi (by decide) | omega) ?_))))
  have sr16 : rng (sc xs (i + 2)) := sc_rng
  refine z_callV X 179 (rm := rmN 272) (As := [.int (Int32.ofInt (sc xs (i + 1))), .int (Int32.ofInt (sc xs (i + 2)))]) (st := []) rfl rfl (by decide) rfl (by rw [E.1, E.2.1, E.2.2.1]; exact k_plan G Is13 JRLx_s13 (by first | exact ⟨sr15.1, sr15.2⟩ | omega) (by first | exact ⟨sr16.1, sr16.2⟩ | omega) (by first | exact oq_b44a1c7f ws13_89 p1 b10.1 | omega)) ⟨by rw [E.2.2.2]; exact (show 64 + 1 ≤ 2048 from oq_5cbe2cb6), by rw [E.2.2.2]; exact (show 8 + (6 + 11) + 2742 ≤ 84000 from oq_276d7037), by rw [E.2.2.2]; exact (show (ce + 2) + 0 ≤ 601024 by omega), by rw [E.2.2.2]; exact (show (sl + 12) + 0 ≤ 7293034 by omega)⟩ (Nat.le_of_ble_eq_true rfl) (fun vv s17 hq => ?_) (fun ee s17 hq => ?_)
  rotate_left
  · obtain ⟨Is17, Fs17, JRLx_s17, e18, hv, hrs17, hps17⟩ := hq; cases hv
  obtain ⟨Is17, Fs17, JRLx_s17, e18, hv, hrs17, hps17⟩ := hq
  cases hv
  have JRLx_s17 : RLx s17 := RLx_fm Fs17 (by decide) JRLx_s13
  have JFEQ_s17 : FEQ s17 := FEQ_fm Fs17 (by decide) JFEQ_s13
  have JRWJ_s17 : RWJ s17 := RWJ_fm Fs17 (by decide +kernel) JRWJ_s13
  have JFTK_s17 : FTK s17 := FTK_fm Fs17 (by decide) JFTK_s13
  have JARJ_s17 : ARJ s17 := ARJ_fm Fs17 ⟨by decide +kernel, by decide +kernel, by decide +kernel, by decide +kernel, by decide +kernel, by decide +kernel, by decide +kernel, by decide +kernel⟩ JARJ_s13
  have JPTJ_s17 : PTJ s17 := PTJ_fm Fs17 (by decide +kernel) JPTJ_s13
  have ws17_0 : iI s17 0 = iI s13 0 := fm_iq Fs17 rfl
  have ws17_74 : iI s17 74 = iI s13 74 := fm_iq Fs17 rfl
  have ws17_9 : iI s17 9 = iI s13 9 := fm_iq Fs17 rfl
  have ws17_90 : iI s17 90 = iI s13 90 := fm_iq Fs17 rfl
  have ws17_20 : iI s17 20 = iI s13 20 := fm_iq Fs17 rfl
  have ws17_98 : iI s17 98 = iI s13 98 := fm_iq Fs17 rfl
  have ws17_70 : iI s17 70 = iI s13 70 := fm_iq Fs17 rfl
  have ws17_107 : iI s17 107 = iI s13 107 := fm_iq Fs17 rfl
  have ws17_12 : iI s17 12 = iI s13 12 := fm_iq Fs17 rfl
  have b19 := bi_89 Is17
  have wos17 : iO s17 = iO s13 := fm_o Fs17 (by decide)
  show WS k 1234 [(5, .int (Int32.ofInt e14)), (0, .ref q1), (1, .ref (A 0)), (2, .ref (A 179)), (3, .ref (A 517)), (4, .int (Int32.ofInt i))] [.int (Int32.ofInt e18)] (Wd A dT s17) (ce + 2) (sl + 12)
  refine z_store X (lv' := [(6, .int (Int32.ofInt e18)), (5, .int (Int32.ofInt e14)), (0, .ref q1), (1, .ref (A 0)), (2, .ref (A 179)), (3, .ref (A 517)), (4, .int (Int32.ofInt i))]) rfl (by decide) (fun _ h => h) (z_goto X (t := 1894) rfl rfl (w_widen (ce' := ce + 29) (sl' := sl + 222) (by first | exact Nat.le_add_right _ _ | exact Nat.add_le_add_left (by decide) _ | omega) (by first | exact Nat.le_add_right _ _ | exact Nat.add_le_add_left (by decide) _ | omega) ?_))
  exact WS_lv (lv := [(0, .ref q1), (1, .ref (A 0)), (2, .ref (A 179)), (3, .ref (A 517)), (4, .int (Int32.ofInt i))]) (List.forall_mem_cons.mpr ⟨(List.Mem.tail _ (List.Mem.tail _ (List.Mem.head _))), (List.forall_mem_cons.mpr ⟨(List.Mem.tail _ (List.Mem.tail _ (List.Mem.tail _ (List.Mem.head _)))), (List.forall_mem_cons.mpr ⟨(List.Mem.tail _ (List.Mem.tail _ (List.Mem.tail _ (List.Mem.tail _ (List.Mem.head _))))), (List.forall_mem_cons.mpr ⟨(List.Mem.tail _ (List.Mem.tail _ (List.Mem.tail _ (List.Mem.tail _ (List.Mem.tail _ (List.Mem.head _)))))), (List.forall_mem_cons.mpr ⟨(List.Mem.tail _ (List.Mem.tail _ (List.Mem.tail _ (List.Mem.tail _ (List.Mem.tail _ (List.Mem.tail _ (List.Mem.head _))))))), (fun q h => absurd h List.not_mem_nil)⟩)⟩)⟩)⟩)⟩) (hk A _ Is17 JRLx_s17 JFEQ_s17 JRWJ_s17 JFTK_s17 JARJ_s17 JPTJ_s17 (by first | exact hps17 | omega) (by first | exact oq_d7ce4408 ws17_12 ws13_12 p2 | omega) (by first | exact oq_5bcdc35f ws17_74 ws17_0 ws13_74 ws13_0 p3 | omega) (by first | exact oq_5bcdc35f ws17_90 ws17_9 ws13_90 ws13_9 p4 | omega) (by first | exact oq_5bcdc35f ws17_98 ws17_20 ws13_98 ws13_20 p5 | omega) (by first | exact oq_5bcdc35f ws17_107 ws17_70 ws13_107 ws13_70 p6 | omega))
theorem lc_29 (G : GX l s0 D tys a0 dT) (GR : RS0 s0) (SF : SF0 s0) (GT : TXs0 s0) (GW : TXw0 s0) {k : kx_T} (X : AX k 350 dT) (E : kL k = l ∧ kS0 k = s0 ∧ kD k = D ∧ kR k = room_1) {q1 L : Nat} {xs : Nat → Int32} (S : SX k q1 L xs) (hL : L ≤ 3072) (I : Bd s) (jR : RLx s) (jFEQ : FEQ s) (jRWJ : RWJ s) (jFTK : FTK s) (jARJ : ARJ s) (jPTJ : PTJ s) (p1 : iI s 89 = 1) (p2 : iI s 12 ≤ 8) (p3 : iI s 0 = iI s 74) (p4 : iI s 9 = iI s 90) (p5 : iI s 20 = iI s 98) (p6 : iI s 70 = iI s 107) {i : Int} (hi : 0 ≤ i ∧ i + 6 ≤ (L : Int)) {ce sl : Nat} (hce : ce + 29 ≤ 601024) (hsl : sl + 222 ≤ 7293034) (hk : ∀ (A : Nat → Nat) (t : PS), Bd t → RLx t → FEQ t → RWJ t → FTK t → ARJ t → PTJ t → iI t 89 = 1 → iI t 12 ≤ 8 → iI t 0 = iI t 74 → iI t 9 = iI t 90 → iI t 20 = iI t 98 → iI t 70 = iI t 107 → WS k 1894 [(0, .ref q1), (1, .ref (A 0)), (2, .ref (A 179)), (3, .ref (A 517)), (4, .int (Int32.ofInt i))] [] (Wd A dT t) (ce + 29) (sl + 222)) : WS k 1239 [(0, .ref q1), (1, .ref (A 0)), (2, .ref (A 179)), (3, .ref (A 517)), (4, .int (Int32.ofInt i))] [] (Wd A dT s) ce sl := by
  have F : Fm [36, 37, 73, 102, 103] [1460] s s := fm_rf _ _ s
  have b1 := bi_0 I
  have b2 := bi_74 I
  have b3 := bi_9 I
  have b4 := bi_90 I
  have b5 := bi_20 I
  have b6 := bi_98 I
  have b7 := bi_70 I
  have b8 := bi_107 I
  have b9 := bi_12 I
  have b10 := bi_89 I
  refine z_aload_n X (x := A 0) rfl (List.Mem.tail _ (List.Mem.head _)) (z_aload_n X (x := q1) rfl (List.Mem.head _) (z_load X (x := i) rfl (List.Mem.tail _ (List.Mem.tail _ (List.Mem.tail _ (List.Mem.tail _ (List.Mem.head _))))) (z_const X rfl (z_add X rfl (z_sld X S hL rfl (show 0 ≤ (i + 1) ∧ (i + 1) < (L : Int) by first | exact sx_in hi (by decide) | omega) ?_)))))
  have sr11 : rng (sc xs (i + 1)) := sc_rng
  refine z_aload_n X (x := q1) rfl (List.Mem.head _) (z_load X (x := i) rfl (List.Mem.tail _ (List.Mem.tail _ (List.Mem.tail _ (List.Mem.tail _ (List.Mem.head _))))) (z_const X rfl (z_add X rfl (z_sld X S hL rfl (show 0 ≤ (i + 2) ∧ (i + 2) < (L : Int) by first | exact sx_in hi (by decide) | omega) ?_))))
  have sr12 : rng (sc xs (i + 2)) := sc_rng
  refine z_aload_n X (x := A 517) rfl (List.Mem.tail _ (List.Mem.tail _ (List.Mem.tail _ (List.Mem.head _)))) (z_callL X (rm := rmN 338) (As := [.ref (A 0), .int (Int32.ofInt (sc xs (i + 1))), .int (Int32.ofInt (sc xs (i + 2))), .ref (A 517)]) (st := []) rfl (by decide) rfl (by rw [E.1, E.2.1, E.2.2.1]; exact lw_hours G I (by omega) (by omega)) ⟨by rw [E.2.2.2]; exact (show 8 + 1 ≤ 2048 by decide), by rw [E.2.2.2]; exact (show 8 + (5 + 11) + 145 ≤ 84000 by decide), by rw [E.2.2.2]; exact (show ce + 2 ≤ 601024 by first | exact rmo_1 hce (by decide) | exact rmo_2 hce (by decide) | omega), by rw [E.2.2.2]; exact (show sl + 12 ≤ 7293034 by first | exact rmo_1 hsl (by decide) | exact rmo_2 hsl (by decide) | omega)⟩ (Nat.le_of_ble_eq_true rfl) (fun vv A s13 hA2 hq => ?_) (fun ee A s13 hA2 hq => ?_))
  rotate_left
  · obtain ⟨Is13, Fs13, e14, hv, hrs13, hps13⟩ := hq; cases hv
  obtain ⟨Is13, Fs13, e14, hv, hrs13, hps13⟩ := hq
  cases hv
  rw [← hA2 0 (by decide)]
  rw [← hA2 179 (by decide)]
  rw [← hA2 517 (by decide)]
  have JRLx_s13 : RLx s13 := RLx_fm Fs13 (by decide) jR
  have JFEQ_s13 : FEQ s13 := FEQ_fm Fs13 (by decide) jFEQ
  have JRWJ_s13 : RWJ s13 := RWJ_fm Fs13 (by decide +kernel) jRWJ
  have JFTK_s13 : FTK s13 := FTK_fm Fs13 (by decide) jFTK
  have JARJ_s13 : ARJ s13 := ARJ_fm Fs13 ⟨by decide +kernel, by decide +kernel, by decide +kernel, by decide +kernel, by decide +kernel, by decide +kernel, by decide +kernel, by decide +kernel⟩ jARJ
  have JPTJ_s13 : PTJ s13 := PTJ_fm Fs13 (by decide +kernel) jPTJ
  have ws13_0 : iI s13 0 = iI s 0 := fm_iq Fs13 rfl
  have ws13_74 : iI s13 74 = iI s 74 := fm_iq Fs13 rfl
  have ws13_9 : iI s13 9 = iI s 9 := fm_iq Fs13 rfl
  have ws13_90 : iI s13 90 = iI s 90 := fm_iq Fs13 rfl
  have ws13_20 : iI s13 20 = iI s 20 := fm_iq Fs13 rfl
  have ws13_98 : iI s13 98 = iI s 98 := fm_iq Fs13 rfl
  have ws13_70 : iI s13 70 = iI s 70 := fm_iq Fs13 rfl
  have ws13_107 : iI s13 107 = iI s 107 := fm_iq Fs13 rfl
  have ws13_12 : iI s13 12 = iI s 12 := fm_iq Fs13 rfl
  have ws13_89 : iI s13 89 = iI s 89 := fm_iq Fs13 rfl
  show WS k 1256 [(0, .ref q1), (1, .ref (A 0)), (2, .ref (A 179)), (3, .ref (A 517)), (4, .int (Int32.ofInt i))] [.int (Int32.ofInt e14)] (Wd A dT s13) (ce + 2) (sl + 12)
  refine z_store X (lv' := [(5, .int (Int32.ofInt e14)), (0, .ref q1), (1, .ref (A 0)), (2, .ref (A 179)), (3, .ref (A 517)), (4, .int (Int32.ofInt i))]) rfl (by decide) (fun _ h => h) (z_aload_n X (x := A 179) rfl (List.Mem.tail _ (List.Mem.tail _ (List.Mem.tail _ (List.Mem.head _)))) (z_aload_n X (x := q1) rfl (List.Mem.tail _ (List.Mem.head _)) (z_load X (x := i) rfl (List.Mem.tail _ (List.Mem.tail _ (List.Mem.tail _ (List.Mem.tail _ (List.Mem.tail _ (List.Mem.head _)))))) (z_const X rfl (z_add X rfl (z_sld X S hL rfl (show 0 ≤ (i + 1) ∧ (i + 1) < (L : Int) by first | exact sx_in hi (by decide) | omega) ?_))))))
  have sr15 : rng (sc xs (i + 1)) := sc_rng
  refine z_aload_n X (x := q1) rfl (List.Mem.tail _ (List.Mem.head _)) (z_load X (x := i) rfl (List.Mem.tail _ (List.Mem.tail _ (List.Mem.tail _ (List.Mem.tail _ (List.Mem.tail _ (List.Mem.head _)))))) (z_const X rfl (z_add X rfl (z_sld X S hL rfl (show 0 ≤ (i + 2) ∧ (i + 2) < (L : Int) by first | exact sx_in hi (by decide) | omega) ?_))))
  have sr16 : rng (sc xs (i + 2)) := sc_rng
  refine z_callV X 179 (rm := rmN 273) (As := [.int (Int32.ofInt (sc xs (i + 1))), .int (Int32.ofInt (sc xs (i + 2)))]) (st := []) rfl rfl (by decide) rfl (by rw [E.1, E.2.1, E.2.2.1]; exact k_hours G Is13 (by first | exact ⟨sr15.1, sr15.2⟩ | omega) (by first | exact ⟨sr16.1, sr16.2⟩ | omega)) ⟨by rw [E.2.2.2]; exact (show 7 + 1 ≤ 2048 from oq_4e6106eb), by rw [E.2.2.2]; exact (show 8 + (4 + 11) + 122 ≤ 84000 from oq_ebbf79c1), by rw [E.2.2.2]; exact (show (ce + 2) + 0 ≤ 601024 by omega), by rw [E.2.2.2]; exact (show (sl + 12) + 0 ≤ 7293034 by omega)⟩ (Nat.le_of_ble_eq_true rfl) (fun vv s17 hq => ?_) (fun ee s17 hq => ?_)
  rotate_left
  · obtain ⟨Is17, Fs17, e18, hv, hrs17, hps17⟩ := hq; cases hv
  obtain ⟨Is17, Fs17, e18, hv, hrs17, hps17⟩ := hq
  cases hv
  have JRLx_s17 : RLx s17 := RLx_fm Fs17 (by decide) JRLx_s13
  have JFEQ_s17 : FEQ s17 := FEQ_fm Fs17 (by decide) JFEQ_s13
  have JRWJ_s17 : RWJ s17 := RWJ_fm Fs17 (by decide +kernel) JRWJ_s13
  have JFTK_s17 : FTK s17 := FTK_fm Fs17 (by decide) JFTK_s13
  have JARJ_s17 : ARJ s17 := ARJ_fm Fs17 ⟨by decide +kernel, by decide +kernel, by decide +kernel, by decide +kernel, by decide +kernel, by decide +kernel, by decide +kernel, by decide +kernel⟩ JARJ_s13
  have JPTJ_s17 : PTJ s17 := PTJ_fm Fs17 (by decide +kernel) JPTJ_s13
  have ws17_0 : iI s17 0 = iI s13 0 := fm_iq Fs17 rfl
  have ws17_74 : iI s17 74 = iI s13 74 := fm_iq Fs17 rfl
  have ws17_9 : iI s17 9 = iI s13 9 := fm_iq Fs17 rfl
  have ws17_90 : iI s17 90 = iI s13 90 := fm_iq Fs17 rfl
  have ws17_20 : iI s17 20 = iI s13 20 := fm_iq Fs17 rfl
  have ws17_98 : iI s17 98 = iI s13 98 := fm_iq Fs17 rfl
  have ws17_70 : iI s17 70 = iI s13 70 := fm_iq Fs17 rfl
  have ws17_107 : iI s17 107 = iI s13 107 := fm_iq Fs17 rfl
  have ws17_12 : iI s17 12 = iI s13 12 := fm_iq Fs17 rfl
  have ws17_89 : iI s17 89 = iI s13 89 := fm_iq Fs17 rfl
  have wos17 : iO s17 = iO s13 := fm_o Fs17 (by decide)
  show WS k 1274 [(5, .int (Int32.ofInt e14)), (0, .ref q1), (1, .ref (A 0)), (2, .ref (A 179)), (3, .ref (A 517)), (4, .int (Int32.ofInt i))] [.int (Int32.ofInt e18)] (Wd A dT s17) (ce + 2) (sl + 12)
  refine z_store X (lv' := [(6, .int (Int32.ofInt e18)), (5, .int (Int32.ofInt e14)), (0, .ref q1), (1, .ref (A 0)), (2, .ref (A 179)), (3, .ref (A 517)), (4, .int (Int32.ofInt i))]) rfl (by decide) (fun _ h => h) (z_goto X (t := 1894) rfl rfl (w_widen (ce' := ce + 29) (sl' := sl + 222) (by first | exact Nat.le_add_right _ _ | exact Nat.add_le_add_left (by decide) _ | omega) (by first | exact Nat.le_add_right _ _ | exact Nat.add_le_add_left (by decide) _ | omega) ?_))
  exact WS_lv (lv := [(0, .ref q1), (1, .ref (A 0)), (2, .ref (A 179)), (3, .ref (A 517)), (4, .int (Int32.ofInt i))]) (List.forall_mem_cons.mpr ⟨(List.Mem.tail _ (List.Mem.tail _ (List.Mem.head _))), (List.forall_mem_cons.mpr ⟨(List.Mem.tail _ (List.Mem.tail _ (List.Mem.tail _ (List.Mem.head _)))), (List.forall_mem_cons.mpr ⟨(List.Mem.tail _ (List.Mem.tail _ (List.Mem.tail _ (List.Mem.tail _ (List.Mem.head _))))), (List.forall_mem_cons.mpr ⟨(List.Mem.tail _ (List.Mem.tail _ (List.Mem.tail _ (List.Mem.tail _ (List.Mem.tail _ (List.Mem.head _)))))), (List.forall_mem_cons.mpr ⟨(List.Mem.tail _ (List.Mem.tail _ (List.Mem.tail _ (List.Mem.tail _ (List.Mem.tail _ (List.Mem.tail _ (List.Mem.head _))))))), (fun q h => absurd h List.not_mem_nil)⟩)⟩)⟩)⟩)⟩) (hk A _ Is17 JRLx_s17 JFEQ_s17 JRWJ_s17 JFTK_s17 JARJ_s17 JPTJ_s17 (by first | exact oq_f34933ba ws17_89 ws13_89 p1 b10.1 | omega) (by first | exact oq_d7ce4408 ws17_12 ws13_12 p2 | omega) (by first | exact oq_5bcdc35f ws17_74 ws17_0 ws13_74 ws13_0 p3 | omega) (by first | exact oq_5bcdc35f ws17_90 ws17_9 ws13_90 ws13_9 p4 | omega) (by first | exact oq_5bcdc35f ws17_98 ws17_20 ws13_98 ws13_20 p5 | omega) (by first | exact oq_5bcdc35f ws17_107 ws17_70 ws13_107 ws13_70 p6 | omega))
theorem lc_30 (G : GX l s0 D tys a0 dT) (GR : RS0 s0) (SF : SF0 s0) (GT : TXs0 s0) (GW : TXw0 s0) {k : kx_T} (X : AX k 350 dT) (E : kL k = l ∧ kS0 k = s0 ∧ kD k = D ∧ kR k = room_1) {q1 L : Nat} {xs : Nat → Int32} (S : SX k q1 L xs) (hL : L ≤ 3072) (I : Bd s) (jR : RLx s) (jFEQ : FEQ s) (jRWJ : RWJ s) (jFTK : FTK s) (jARJ : ARJ s) (jPTJ : PTJ s) (p1 : iI s 89 = 1) (p2 : iI s 12 ≤ 8) (p3 : iI s 0 = iI s 74) (p4 : iI s 9 = iI s 90) (p5 : iI s 20 = iI s 98) (p6 : iI s 70 = iI s 107) {i : Int} (hi : 0 ≤ i ∧ i + 6 ≤ (L : Int)) {ce sl : Nat} (hce : ce + 29 ≤ 601024) (hsl : sl + 222 ≤ 7293034) (hk : ∀ (A : Nat → Nat) (t : PS), Bd t → RLx t → FEQ t → RWJ t → FTK t → ARJ t → PTJ t → iI t 89 = 1 → iI t 12 ≤ 8 → iI t 0 = iI t 74 → iI t 9 = iI t 90 → iI t 20 = iI t 98 → iI t 70 = iI t 107 → WS k 1894 [(0, .ref q1), (1, .ref (A 0)), (2, .ref (A 179)), (3, .ref (A 517)), (4, .int (Int32.ofInt i))] [] (Wd A dT t) (ce + 29) (sl + 222)) : WS k 1279 [(0, .ref q1), (1, .ref (A 0)), (2, .ref (A 179)), (3, .ref (A 517)), (4, .int (Int32.ofInt i))] [] (Wd A dT s) ce sl := by
  have F : Fm [73] [52, 1460, 398] s s := fm_rf _ _ s
  have b1 := bi_0 I
  have b2 := bi_74 I
  have b3 := bi_9 I
  have b4 := bi_90 I
  have b5 := bi_20 I
  have b6 := bi_98 I
  have b7 := bi_70 I
  have b8 := bi_107 I
  have b9 := bi_12 I
  have b10 := bi_89 I
  refine z_aload_n X (x := A 0) rfl (List.Mem.tail _ (List.Mem.head _)) (z_aload_n X (x := q1) rfl (List.Mem.head _) (z_load X (x := i) rfl (List.Mem.tail _ (List.Mem.tail _ (List.Mem.tail _ (List.Mem.tail _ (List.Mem.head _))))) (z_const X rfl (z_add X rfl (z_sld X S hL rfl (show 0 ≤ (i + 1) ∧ (i + 1) < (L : Int) by first | exact sx_in hi (by decide) | omega) ?_)))))
  have sr11 : rng (sc xs (i + 1)) := sc_rng
  refine z_aload_n X (x := q1) rfl (List.Mem.head _) (z_load X (x := i) rfl (List.Mem.tail _ (List.Mem.tail _ (List.Mem.tail _ (List.Mem.tail _ (List.Mem.head _))))) (z_const X rfl (z_add X rfl (z_sld X S hL rfl (show 0 ≤ (i + 2) ∧ (i + 2) < (L : Int) by first | exact sx_in hi (by decide) | omega) ?_))))
  have sr12 : rng (sc xs (i + 2)) := sc_rng
  refine z_aload_n X (x := A 517) rfl (List.Mem.tail _ (List.Mem.tail _ (List.Mem.tail _ (List.Mem.head _)))) (z_callL X (rm := rmN 339) (As := [.ref (A 0), .int (Int32.ofInt (sc xs (i + 1))), .int (Int32.ofInt (sc xs (i + 2))), .ref (A 517)]) (st := []) rfl (by decide) rfl (by rw [E.1, E.2.1, E.2.2.1]; exact lw_ill G I (by omega) (by omega)) ⟨by rw [E.2.2.2]; exact (show 8 + 1 ≤ 2048 by decide), by rw [E.2.2.2]; exact (show 8 + (5 + 11) + 146 ≤ 84000 by decide), by rw [E.2.2.2]; exact (show ce + 2 ≤ 601024 by first | exact rmo_1 hce (by decide) | exact rmo_2 hce (by decide) | omega), by rw [E.2.2.2]; exact (show sl + 12 ≤ 7293034 by first | exact rmo_1 hsl (by decide) | exact rmo_2 hsl (by decide) | omega)⟩ (Nat.le_of_ble_eq_true rfl) (fun vv A s13 hA2 hq => ?_) (fun ee A s13 hA2 hq => ?_))
  rotate_left
  · obtain ⟨Is13, Fs13, e14, hv, hrs13, hps13⟩ := hq; cases hv
  obtain ⟨Is13, Fs13, e14, hv, hrs13, hps13⟩ := hq
  cases hv
  rw [← hA2 0 (by decide)]
  rw [← hA2 179 (by decide)]
  rw [← hA2 517 (by decide)]
  have JRLx_s13 : RLx s13 := RLx_fm Fs13 (by decide) jR
  have JFEQ_s13 : FEQ s13 := FEQ_fm Fs13 (by decide) jFEQ
  have JRWJ_s13 : RWJ s13 := RWJ_fm Fs13 (by decide +kernel) jRWJ
  have JFTK_s13 : FTK s13 := FTK_fm Fs13 (by decide) jFTK
  have JARJ_s13 : ARJ s13 := ARJ_fm Fs13 ⟨by decide +kernel, by decide +kernel, by decide +kernel, by decide +kernel, by decide +kernel, by decide +kernel, by decide +kernel, by decide +kernel⟩ jARJ
  have JPTJ_s13 : PTJ s13 := PTJ_fm Fs13 (by decide +kernel) jPTJ
  have ws13_0 : iI s13 0 = iI s 0 := fm_iq Fs13 rfl
  have ws13_74 : iI s13 74 = iI s 74 := fm_iq Fs13 rfl
  have ws13_9 : iI s13 9 = iI s 9 := fm_iq Fs13 rfl
  have ws13_90 : iI s13 90 = iI s 90 := fm_iq Fs13 rfl
  have ws13_20 : iI s13 20 = iI s 20 := fm_iq Fs13 rfl
  have ws13_98 : iI s13 98 = iI s 98 := fm_iq Fs13 rfl
  have ws13_70 : iI s13 70 = iI s 70 := fm_iq Fs13 rfl
  have ws13_107 : iI s13 107 = iI s 107 := fm_iq Fs13 rfl
  have ws13_12 : iI s13 12 = iI s 12 := fm_iq Fs13 rfl
  have ws13_89 : iI s13 89 = iI s 89 := fm_iq Fs13 rfl
  show WS k 1296 [(0, .ref q1), (1, .ref (A 0)), (2, .ref (A 179)), (3, .ref (A 517)), (4, .int (Int32.ofInt i))] [.int (Int32.ofInt e14)] (Wd A dT s13) (ce + 2) (sl + 12)
  refine z_store X (lv' := [(5, .int (Int32.ofInt e14)), (0, .ref q1), (1, .ref (A 0)), (2, .ref (A 179)), (3, .ref (A 517)), (4, .int (Int32.ofInt i))]) rfl (by decide) (fun _ h => h) (z_aload_n X (x := A 179) rfl (List.Mem.tail _ (List.Mem.tail _ (List.Mem.tail _ (List.Mem.head _)))) (z_aload_n X (x := q1) rfl (List.Mem.tail _ (List.Mem.head _)) (z_load X (x := i) rfl (List.Mem.tail _ (List.Mem.tail _ (List.Mem.tail _ (List.Mem.tail _ (List.Mem.tail _ (List.Mem.head _)))))) (z_const X rfl (z_add X rfl (z_sld X S hL rfl (show 0 ≤ (i + 1) ∧ (i + 1) < (L : Int) by first | exact sx_in hi (by decide) | omega) ?_))))))
  have sr15 : rng (sc xs (i + 1)) := sc_rng
  refine z_aload_n X (x := q1) rfl (List.Mem.tail _ (List.Mem.head _)) (z_load X (x := i) rfl (List.Mem.tail _ (List.Mem.tail _ (List.Mem.tail _ (List.Mem.tail _ (List.Mem.tail _ (List.Mem.head _)))))) (z_const X rfl (z_add X rfl (z_sld X S hL rfl (show 0 ≤ (i + 2) ∧ (i + 2) < (L : Int) by first | exact sx_in hi (by decide) | omega) ?_))))
  have sr16 : rng (sc xs (i + 2)) := sc_rng
  refine z_callV X 179 (rm := rmN 274) (As := [.int (Int32.ofInt (sc xs (i + 1))), .int (Int32.ofInt (sc xs (i + 2)))]) (st := []) rfl rfl (by decide) rfl (by rw [E.1, E.2.1, E.2.2.1]; exact k_ill G Is13 (by first | exact ⟨sr15.1, sr15.2⟩ | omega) (by first | exact ⟨sr16.1, sr16.2⟩ | omega)) ⟨by rw [E.2.2.2]; exact (show 7 + 1 ≤ 2048 from oq_4e6106eb), by rw [E.2.2.2]; exact (show 8 + (4 + 11) + 122 ≤ 84000 from oq_ebbf79c1), by rw [E.2.2.2]; exact (show (ce + 2) + 0 ≤ 601024 by omega), by rw [E.2.2.2]; exact (show (sl + 12) + 0 ≤ 7293034 by omega)⟩ (Nat.le_of_ble_eq_true rfl) (fun vv s17 hq => ?_) (fun ee s17 hq => ?_)
  rotate_left
  · obtain ⟨Is17, Fs17, e18, hv, hrs17, hps17⟩ := hq; cases hv
  obtain ⟨Is17, Fs17, e18, hv, hrs17, hps17⟩ := hq
  cases hv
  have JRLx_s17 : RLx s17 := RLx_fm Fs17 (by decide) JRLx_s13
  have JFEQ_s17 : FEQ s17 := FEQ_fm Fs17 (by decide) JFEQ_s13
  have JRWJ_s17 : RWJ s17 := RWJ_fm Fs17 (by decide +kernel) JRWJ_s13
  have JFTK_s17 : FTK s17 := FTK_fm Fs17 (by decide) JFTK_s13
  have JARJ_s17 : ARJ s17 := ARJ_fm Fs17 ⟨by decide +kernel, by decide +kernel, by decide +kernel, by decide +kernel, by decide +kernel, by decide +kernel, by decide +kernel, by decide +kernel⟩ JARJ_s13
  have JPTJ_s17 : PTJ s17 := PTJ_fm Fs17 (by decide +kernel) JPTJ_s13
  have ws17_0 : iI s17 0 = iI s13 0 := fm_iq Fs17 rfl
  have ws17_74 : iI s17 74 = iI s13 74 := fm_iq Fs17 rfl
  have ws17_9 : iI s17 9 = iI s13 9 := fm_iq Fs17 rfl
  have ws17_90 : iI s17 90 = iI s13 90 := fm_iq Fs17 rfl
  have ws17_20 : iI s17 20 = iI s13 20 := fm_iq Fs17 rfl
  have ws17_98 : iI s17 98 = iI s13 98 := fm_iq Fs17 rfl
  have ws17_70 : iI s17 70 = iI s13 70 := fm_iq Fs17 rfl
  have ws17_107 : iI s17 107 = iI s13 107 := fm_iq Fs17 rfl
  have ws17_12 : iI s17 12 = iI s13 12 := fm_iq Fs17 rfl
  have ws17_89 : iI s17 89 = iI s13 89 := fm_iq Fs17 rfl
  have wos17 : iO s17 = iO s13 := fm_o Fs17 (by decide)
  show WS k 1314 [(5, .int (Int32.ofInt e14)), (0, .ref q1), (1, .ref (A 0)), (2, .ref (A 179)), (3, .ref (A 517)), (4, .int (Int32.ofInt i))] [.int (Int32.ofInt e18)] (Wd A dT s17) (ce + 2) (sl + 12)
  refine z_store X (lv' := [(6, .int (Int32.ofInt e18)), (5, .int (Int32.ofInt e14)), (0, .ref q1), (1, .ref (A 0)), (2, .ref (A 179)), (3, .ref (A 517)), (4, .int (Int32.ofInt i))]) rfl (by decide) (fun _ h => h) (z_goto X (t := 1894) rfl rfl (w_widen (ce' := ce + 29) (sl' := sl + 222) (by first | exact Nat.le_add_right _ _ | exact Nat.add_le_add_left (by decide) _ | omega) (by first | exact Nat.le_add_right _ _ | exact Nat.add_le_add_left (by decide) _ | omega) ?_))
  exact WS_lv (lv := [(0, .ref q1), (1, .ref (A 0)), (2, .ref (A 179)), (3, .ref (A 517)), (4, .int (Int32.ofInt i))]) (List.forall_mem_cons.mpr ⟨(List.Mem.tail _ (List.Mem.tail _ (List.Mem.head _))), (List.forall_mem_cons.mpr ⟨(List.Mem.tail _ (List.Mem.tail _ (List.Mem.tail _ (List.Mem.head _)))), (List.forall_mem_cons.mpr ⟨(List.Mem.tail _ (List.Mem.tail _ (List.Mem.tail _ (List.Mem.tail _ (List.Mem.head _))))), (List.forall_mem_cons.mpr ⟨(List.Mem.tail _ (List.Mem.tail _ (List.Mem.tail _ (List.Mem.tail _ (List.Mem.tail _ (List.Mem.head _)))))), (List.forall_mem_cons.mpr ⟨(List.Mem.tail _ (List.Mem.tail _ (List.Mem.tail _ (List.Mem.tail _ (List.Mem.tail _ (List.Mem.tail _ (List.Mem.head _))))))), (fun q h => absurd h List.not_mem_nil)⟩)⟩)⟩)⟩)⟩) (hk A _ Is17 JRLx_s17 JFEQ_s17 JRWJ_s17 JFTK_s17 JARJ_s17 JPTJ_s17 (by first | exact oq_f34933ba ws17_89 ws13_89 p1 b10.1 | omega) (by first | exact oq_d7ce4408 ws17_12 ws13_12 p2 | omega) (by first | exact oq_5bcdc35f ws17_74 ws17_0 ws13_74 ws13_0 p3 | omega) (by first | exact oq_5bcdc35f ws17_90 ws17_9 ws13_90 ws13_9 p4 | omega) (by first | exact oq_5bcdc35f ws17_98 ws17_20 ws13_98 ws13_20 p5 | omega) (by first | exact oq_5bcdc35f ws17_107 ws17_70 ws13_107 ws13_70 p6 | omega))
theorem lc_31 (G : GX l s0 D tys a0 dT) (GR : RS0 s0) (SF : SF0 s0) (GT : TXs0 s0) (GW : TXw0 s0) {k : kx_T} (X : AX k 350 dT) (E : kL k = l ∧ kS0 k = s0 ∧ kD k = D ∧ kR k = room_1) {q1 L : Nat} {xs : Nat → Int32} (S : SX k q1 L xs) (hL : L ≤ 3072) (I : Bd s) (jR : RLx s) (jFEQ : FEQ s) (jRWJ : RWJ s) (jFTK : FTK s) (jARJ : ARJ s) (jPTJ : PTJ s) (p1 : iI s 89 = 1) (p2 : iI s 12 ≤ 8) (p3 : iI s 0 = iI s 74) (p4 : iI s 9 = iI s 90) (p5 : iI s 20 = iI s 98) (p6 : iI s 70 = iI s 107) {i : Int} (hi : 0 ≤ i ∧ i + 6 ≤ (L : Int)) {ce sl : Nat} (hce : ce + 29 ≤ 601024) (hsl : sl + 222 ≤ 7293034) (hk : ∀ (A : Nat → Nat) (t : PS), Bd t → RLx t → FEQ t → RWJ t → FTK t → ARJ t → PTJ t → iI t 89 = 1 → iI t 12 ≤ 8 → iI t 0 = iI t 74 → iI t 9 = iI t 90 → iI t 20 = iI t 98 → iI t 70 = iI t 107 → WS k 1894 [(0, .ref q1), (1, .ref (A 0)), (2, .ref (A 179)), (3, .ref (A 517)), (4, .int (Int32.ofInt i))] [] (Wd A dT t) (ce + 29) (sl + 222)) : WS k 1319 [(0, .ref q1), (1, .ref (A 0)), (2, .ref (A 179)), (3, .ref (A 517)), (4, .int (Int32.ofInt i))] [] (Wd A dT s) ce sl := by
  have F : Fm [22, 23, 24, 34, 35, 38, 73, 104, 77, 75, 78, 79, 80, 81, 89] [33, 26, 27, 28, 29, 30, 31, 32, 20, 48, 47, 49, 50, 51, 53, 54, 55, 56, 1460, 161, 230, 202, 204, 205, 206, 207, 208, 209, 210, 211, 212, 213, 214, 215, 216, 217, 218, 219, 220, 221, 222, 223, 224, 225, 226, 227, 203, 395, 396, 397, 245, 246, 247, 248, 249, 250, 251, 252, 253, 254, 255, 256, 257, 258, 259, 260, 261, 262, 263, 264, 265, 266, 267, 268, 269, 270, 271, 272, 273, 274, 275, 276, 277, 278, 279, 280, 281, 282, 283, 284, 285, 286, 287, 288, 289, 290, 291, 292, 293, 294, 295, 296, 297, 298, 299, 300, 301, 302, 303, 304, 305, 306, 307, 308, 309, 310, 311, 312, 313, 314, 315, 316, 317, 318, 319, 320, 321, 322, 323, 324, 325, 326, 327, 328, 329, 330, 331, 332, 333, 334, 335, 336, 337, 338, 339, 340, 341, 342, 343, 344, 345, 346, 347, 348, 349, 350, 351, 352, 353, 354, 355, 356, 357, 358, 359, 360, 361, 362, 363, 364, 365, 366, 367, 368, 369, 370, 371, 372, 373, 374, 375, 376, 377, 378, 379, 380, 381, 382, 383, 384, 385, 386, 387, 388, 389, 390, 391, 392, 393, 394] s s := fm_rf _ _ s
  have b1 := bi_0 I
  have b2 := bi_74 I
  have b3 := bi_9 I
  have b4 := bi_90 I
  have b5 := bi_20 I
  have b6 := bi_98 I
  have b7 := bi_70 I
  have b8 := bi_107 I
  have b9 := bi_12 I
  have b10 := bi_89 I
  refine z_aload_n X (x := A 0) rfl (List.Mem.tail _ (List.Mem.head _)) (z_aload_n X (x := q1) rfl (List.Mem.head _) (z_load X (x := i) rfl (List.Mem.tail _ (List.Mem.tail _ (List.Mem.tail _ (List.Mem.tail _ (List.Mem.head _))))) (z_const X rfl (z_add X rfl (z_sld X S hL rfl (show 0 ≤ (i + 1) ∧ (i + 1) < (L : Int) by first | exact sx_in hi (by decide) | omega) ?_)))))
  have sr11 : rng (sc xs (i + 1)) := sc_rng
  refine z_aload_n X (x := q1) rfl (List.Mem.head _) (z_load X (x := i) rfl (List.Mem.tail _ (List.Mem.tail _ (List.Mem.tail _ (List.Mem.tail _ (List.Mem.head _))))) (z_const X rfl (z_add X rfl (z_sld X S hL rfl (show 0 ≤ (i + 2) ∧ (i + 2) < (L : Int) by first | exact sx_in hi (by decide) | omega) ?_))))
  have sr12 : rng (sc xs (i + 2)) := sc_rng
  refine z_aload_n X (x := q1) rfl (List.Mem.head _) (z_load X (x := i) rfl (List.Mem.tail _ (List.Mem.tail _ (List.Mem.tail _ (List.Mem.tail _ (List.Mem.head _))))) (z_const X rfl (z_add X rfl (z_sld X S hL rfl (show 0 ≤ (i + 3) ∧ (i + 3) < (L : Int) by first | exact sx_in hi (by decide) | omega) ?_))))
  have sr13 : rng (sc xs (i + 3)) := sc_rng
  refine z_aload_n X (x := A 517) rfl (List.Mem.tail _ (List.Mem.tail _ (List.Mem.tail _ (List.Mem.head _)))) (z_callL X (rm := rmN 340) (As := [.ref (A 0), .int (Int32.ofInt (sc xs (i + 1))), .int (Int32.ofInt (sc xs (i + 2))), .int (Int32.ofInt (sc xs (i + 3))), .ref (A 517)]) (st := []) rfl (by decide) rfl (by rw [E.1, E.2.1, E.2.2.1]; exact lw_rota G I (by omega) (by omega) (by omega) (by omega)) ⟨by rw [E.2.2.2]; exact (show 13 + 1 ≤ 2048 by decide), by rw [E.2.2.2]; exact (show 8 + (6 + 11) + 274 ≤ 84000 by decide), by rw [E.2.2.2]; exact (show ce + 3 ≤ 601024 by first | exact rmo_1 hce (by decide) | exact rmo_2 hce (by decide) | omega), by rw [E.2.2.2]; exact (show sl + 18 ≤ 7293034 by first | exact rmo_1 hsl (by decide) | exact rmo_2 hsl (by decide) | omega)⟩ (Nat.le_of_ble_eq_true rfl) (fun vv A s14 hA2 hq => ?_) (fun ee A s14 hA2 hq => ?_))
  rotate_left
  · obtain ⟨Is14, Fs14, e15, hv, hrs14, hps14⟩ := hq; cases hv
  obtain ⟨Is14, Fs14, e15, hv, hrs14, hps14⟩ := hq
  cases hv
  rw [← hA2 0 (by decide)]
  rw [← hA2 179 (by decide)]
  rw [← hA2 517 (by decide)]
  have JRLx_s14 : RLx s14 := RLx_fm Fs14 (by decide) jR
  have JFEQ_s14 : FEQ s14 := FEQ_fm Fs14 (by decide) jFEQ
  have JRWJ_s14 : RWJ s14 := RWJ_fm Fs14 (by decide +kernel) jRWJ
  have JFTK_s14 : FTK s14 := FTK_fm Fs14 (by decide) jFTK
  have JARJ_s14 : ARJ s14 := ARJ_fm Fs14 ⟨by decide +kernel, by decide +kernel, by decide +kernel, by decide +kernel, by decide +kernel, by decide +kernel, by decide +kernel, by decide +kernel⟩ jARJ
  have JPTJ_s14 : PTJ s14 := PTJ_fm Fs14 (by decide +kernel) jPTJ
  have ws14_0 : iI s14 0 = iI s 0 := fm_iq Fs14 rfl
  have ws14_74 : iI s14 74 = iI s 74 := fm_iq Fs14 rfl
  have ws14_9 : iI s14 9 = iI s 9 := fm_iq Fs14 rfl
  have ws14_90 : iI s14 90 = iI s 90 := fm_iq Fs14 rfl
  have ws14_20 : iI s14 20 = iI s 20 := fm_iq Fs14 rfl
  have ws14_98 : iI s14 98 = iI s 98 := fm_iq Fs14 rfl
  have ws14_70 : iI s14 70 = iI s 70 := fm_iq Fs14 rfl
  have ws14_107 : iI s14 107 = iI s 107 := fm_iq Fs14 rfl
  have ws14_12 : iI s14 12 = iI s 12 := fm_iq Fs14 rfl
  have ws14_89 : iI s14 89 = iI s 89 := fm_iq Fs14 rfl
  show WS k 1342 [(0, .ref q1), (1, .ref (A 0)), (2, .ref (A 179)), (3, .ref (A 517)), (4, .int (Int32.ofInt i))] [.int (Int32.ofInt e15)] (Wd A dT s14) (ce + 3) (sl + 18)
  refine z_store X (lv' := [(5, .int (Int32.ofInt e15)), (0, .ref q1), (1, .ref (A 0)), (2, .ref (A 179)), (3, .ref (A 517)), (4, .int (Int32.ofInt i))]) rfl (by decide) (fun _ h => h) (z_aload_n X (x := A 179) rfl (List.Mem.tail _ (List.Mem.tail _ (List.Mem.tail _ (List.Mem.head _)))) (z_aload_n X (x := q1) rfl (List.Mem.tail _ (List.Mem.head _)) (z_load X (x := i) rfl (List.Mem.tail _ (List.Mem.tail _ (List.Mem.tail _ (List.Mem.tail _ (List.Mem.tail _ (List.Mem.head _)))))) (z_const X rfl (z_add X rfl (z_sld X S hL rfl (show 0 ≤ (i + 1) ∧ (i + 1) < (L : Int) by first | exact sx_in hi (by decide) | omega) ?_))))))
  have sr16 : rng (sc xs (i + 1)) := sc_rng
  refine z_aload_n X (x := q1) rfl (List.Mem.tail _ (List.Mem.head _)) (z_load X (x := i) rfl (List.Mem.tail _ (List.Mem.tail _ (List.Mem.tail _ (List.Mem.tail _ (List.Mem.tail _ (List.Mem.head _)))))) (z_const X rfl (z_add X rfl (z_sld X S hL rfl (show 0 ≤ (i + 2) ∧ (i + 2) < (L : Int) by first | exact sx_in hi (by decide) | omega) ?_))))
  have sr17 : rng (sc xs (i + 2)) := sc_rng
  refine z_aload_n X (x := q1) rfl (List.Mem.tail _ (List.Mem.head _)) (z_load X (x := i) rfl (List.Mem.tail _ (List.Mem.tail _ (List.Mem.tail _ (List.Mem.tail _ (List.Mem.tail _ (List.Mem.head _)))))) (z_const X rfl (z_add X rfl (z_sld X S hL rfl (show 0 ≤ (i + 3) ∧ (i + 3) < (L : Int) by first | exact sx_in hi (by decide) | omega) ?_))))
  have sr18 : rng (sc xs (i + 3)) := sc_rng
  refine z_callV X 179 (rm := rmN 276) (As := [.int (Int32.ofInt (sc xs (i + 1))), .int (Int32.ofInt (sc xs (i + 2))), .int (Int32.ofInt (sc xs (i + 3)))]) (st := []) rfl rfl (by decide) rfl (by rw [E.1, E.2.1, E.2.2.1]; exact k_rota G Is14 JRLx_s14 (by first | exact ⟨sr16.1, sr16.2⟩ | omega) (by first | exact ⟨sr17.1, sr17.2⟩ | omega) (by first | exact ⟨sr18.1, sr18.2⟩ | omega) (by first | exact oq_b44a1c7f ws14_89 p1 b10.1 | omega)) ⟨by rw [E.2.2.2]; exact (show 64 + 1 ≤ 2048 from oq_5cbe2cb6), by rw [E.2.2.2]; exact (show 8 + (4 + 11) + 2742 ≤ 84000 from oq_31d93303), by rw [E.2.2.2]; exact (show (ce + 3) + 3 ≤ 601024 by omega), by rw [E.2.2.2]; exact (show (sl + 18) + 24 ≤ 7293034 by omega)⟩ (Nat.le_of_ble_eq_true rfl) (fun vv s19 hq => ?_) (fun ee s19 hq => ?_)
  rotate_left
  · obtain ⟨Is19, Fs19, JRLx_s19, e20, hv, hrs19, hps19⟩ := hq; cases hv
  obtain ⟨Is19, Fs19, JRLx_s19, e20, hv, hrs19, hps19⟩ := hq
  cases hv
  have JRLx_s19 : RLx s19 := RLx_fm Fs19 (by decide) JRLx_s14
  have JFEQ_s19 : FEQ s19 := FEQ_fm Fs19 (by decide) JFEQ_s14
  have JRWJ_s19 : RWJ s19 := RWJ_fm Fs19 (by decide +kernel) JRWJ_s14
  have JFTK_s19 : FTK s19 := FTK_fm Fs19 (by decide) JFTK_s14
  have JARJ_s19 : ARJ s19 := ARJ_fm Fs19 ⟨by decide +kernel, by decide +kernel, by decide +kernel, by decide +kernel, by decide +kernel, by decide +kernel, by decide +kernel, by decide +kernel⟩ JARJ_s14
  have JPTJ_s19 : PTJ s19 := PTJ_fm Fs19 (by decide +kernel) JPTJ_s14
  have ws19_0 : iI s19 0 = iI s14 0 := fm_iq Fs19 rfl
  have ws19_74 : iI s19 74 = iI s14 74 := fm_iq Fs19 rfl
  have ws19_9 : iI s19 9 = iI s14 9 := fm_iq Fs19 rfl
  have ws19_90 : iI s19 90 = iI s14 90 := fm_iq Fs19 rfl
  have ws19_20 : iI s19 20 = iI s14 20 := fm_iq Fs19 rfl
  have ws19_98 : iI s19 98 = iI s14 98 := fm_iq Fs19 rfl
  have ws19_70 : iI s19 70 = iI s14 70 := fm_iq Fs19 rfl
  have ws19_107 : iI s19 107 = iI s14 107 := fm_iq Fs19 rfl
  have ws19_12 : iI s19 12 = iI s14 12 := fm_iq Fs19 rfl
  have b21 := bi_89 Is19
  have wos19 : iO s19 = iO s14 := fm_o Fs19 (by decide)
  show WS k 1366 [(5, .int (Int32.ofInt e15)), (0, .ref q1), (1, .ref (A 0)), (2, .ref (A 179)), (3, .ref (A 517)), (4, .int (Int32.ofInt i))] [.int (Int32.ofInt e20)] (Wd A dT s19) ((ce + 3) + 3) ((sl + 18) + 24)
  refine z_store X (lv' := [(6, .int (Int32.ofInt e20)), (5, .int (Int32.ofInt e15)), (0, .ref q1), (1, .ref (A 0)), (2, .ref (A 179)), (3, .ref (A 517)), (4, .int (Int32.ofInt i))]) rfl (by decide) (fun _ h => h) (z_goto X (t := 1894) rfl rfl (w_widen (ce' := ce + 29) (sl' := sl + 222) (by first | exact Nat.le_add_right _ _ | exact Nat.add_le_add_left (by decide) _ | omega) (by first | exact Nat.le_add_right _ _ | exact Nat.add_le_add_left (by decide) _ | omega) ?_))
  exact WS_lv (lv := [(0, .ref q1), (1, .ref (A 0)), (2, .ref (A 179)), (3, .ref (A 517)), (4, .int (Int32.ofInt i))]) (List.forall_mem_cons.mpr ⟨(List.Mem.tail _ (List.Mem.tail _ (List.Mem.head _))), (List.forall_mem_cons.mpr ⟨(List.Mem.tail _ (List.Mem.tail _ (List.Mem.tail _ (List.Mem.head _)))), (List.forall_mem_cons.mpr ⟨(List.Mem.tail _ (List.Mem.tail _ (List.Mem.tail _ (List.Mem.tail _ (List.Mem.head _))))), (List.forall_mem_cons.mpr ⟨(List.Mem.tail _ (List.Mem.tail _ (List.Mem.tail _ (List.Mem.tail _ (List.Mem.tail _ (List.Mem.head _)))))), (List.forall_mem_cons.mpr ⟨(List.Mem.tail _ (List.Mem.tail _ (List.Mem.tail _ (List.Mem.tail _ (List.Mem.tail _ (List.Mem.tail _ (List.Mem.head _))))))), (fun q h => absurd h List.not_mem_nil)⟩)⟩)⟩)⟩)⟩) (hk A _ Is19 JRLx_s19 JFEQ_s19 JRWJ_s19 JFTK_s19 JARJ_s19 JPTJ_s19 (by first | exact hps19 | omega) (by first | exact oq_d7ce4408 ws19_12 ws14_12 p2 | omega) (by first | exact oq_5bcdc35f ws19_74 ws19_0 ws14_74 ws14_0 p3 | omega) (by first | exact oq_5bcdc35f ws19_90 ws19_9 ws14_90 ws14_9 p4 | omega) (by first | exact oq_5bcdc35f ws19_98 ws19_20 ws14_98 ws14_20 p5 | omega) (by first | exact oq_5bcdc35f ws19_107 ws19_70 ws14_107 ws14_70 p6 | omega))
theorem lc_32 (G : GX l s0 D tys a0 dT) (GR : RS0 s0) (SF : SF0 s0) (GT : TXs0 s0) (GW : TXw0 s0) {k : kx_T} (X : AX k 350 dT) (E : kL k = l ∧ kS0 k = s0 ∧ kD k = D ∧ kR k = room_1) {q1 L : Nat} {xs : Nat → Int32} (S : SX k q1 L xs) (hL : L ≤ 3072) (I : Bd s) (jR : RLx s) (jFEQ : FEQ s) (jRWJ : RWJ s) (jFTK : FTK s) (jARJ : ARJ s) (jPTJ : PTJ s) (p1 : iI s 89 = 1) (p2 : iI s 12 ≤ 8) (p3 : iI s 0 = iI s 74) (p4 : iI s 9 = iI s 90) (p5 : iI s 20 = iI s 98) (p6 : iI s 70 = iI s 107) {i : Int} (hi : 0 ≤ i ∧ i + 6 ≤ (L : Int)) {ce sl : Nat} (hce : ce + 29 ≤ 601024) (hsl : sl + 222 ≤ 7293034) (hk : ∀ (A : Nat → Nat) (t : PS), Bd t → RLx t → FEQ t → RWJ t → FTK t → ARJ t → PTJ t → iI t 89 = 1 → iI t 12 ≤ 8 → iI t 0 = iI t 74 → iI t 9 = iI t 90 → iI t 20 = iI t 98 → iI t 70 = iI t 107 → WS k 1894 [(0, .ref q1), (1, .ref (A 0)), (2, .ref (A 179)), (3, .ref (A 517)), (4, .int (Int32.ofInt i))] [] (Wd A dT t) (ce + 29) (sl + 222)) : WS k 1371 [(0, .ref q1), (1, .ref (A 0)), (2, .ref (A 179)), (3, .ref (A 517)), (4, .int (Int32.ofInt i))] [] (Wd A dT s) ce sl := by
  have F : Fm [22, 23, 24, 34, 35, 38, 73, 104, 77, 75, 78, 79, 80, 81, 89] [33, 26, 27, 28, 29, 30, 31, 32, 20, 48, 47, 49, 50, 51, 53, 54, 55, 56, 1460, 161, 230, 202, 204, 205, 206, 207, 208, 209, 210, 211, 212, 213, 214, 215, 216, 217, 218, 219, 220, 221, 222, 223, 224, 225, 226, 227, 203, 395, 396, 397, 245, 246, 247, 248, 249, 250, 251, 252, 253, 254, 255, 256, 257, 258, 259, 260, 261, 262, 263, 264, 265, 266, 267, 268, 269, 270, 271, 272, 273, 274, 275, 276, 277, 278, 279, 280, 281, 282, 283, 284, 285, 286, 287, 288, 289, 290, 291, 292, 293, 294, 295, 296, 297, 298, 299, 300, 301, 302, 303, 304, 305, 306, 307, 308, 309, 310, 311, 312, 313, 314, 315, 316, 317, 318, 319, 320, 321, 322, 323, 324, 325, 326, 327, 328, 329, 330, 331, 332, 333, 334, 335, 336, 337, 338, 339, 340, 341, 342, 343, 344, 345, 346, 347, 348, 349, 350, 351, 352, 353, 354, 355, 356, 357, 358, 359, 360, 361, 362, 363, 364, 365, 366, 367, 368, 369, 370, 371, 372, 373, 374, 375, 376, 377, 378, 379, 380, 381, 382, 383, 384, 385, 386, 387, 388, 389, 390, 391, 392, 393, 394] s s := fm_rf _ _ s
  have b1 := bi_0 I
  have b2 := bi_74 I
  have b3 := bi_9 I
  have b4 := bi_90 I
  have b5 := bi_20 I
  have b6 := bi_98 I
  have b7 := bi_70 I
  have b8 := bi_107 I
  have b9 := bi_12 I
  have b10 := bi_89 I
  refine z_aload_n X (x := A 0) rfl (List.Mem.tail _ (List.Mem.head _)) (z_aload_n X (x := q1) rfl (List.Mem.head _) (z_load X (x := i) rfl (List.Mem.tail _ (List.Mem.tail _ (List.Mem.tail _ (List.Mem.tail _ (List.Mem.head _))))) (z_const X rfl (z_add X rfl (z_sld X S hL rfl (show 0 ≤ (i + 1) ∧ (i + 1) < (L : Int) by first | exact sx_in hi (by decide) | omega) ?_)))))
  have sr11 : rng (sc xs (i + 1)) := sc_rng
  refine z_aload_n X (x := q1) rfl (List.Mem.head _) (z_load X (x := i) rfl (List.Mem.tail _ (List.Mem.tail _ (List.Mem.tail _ (List.Mem.tail _ (List.Mem.head _))))) (z_const X rfl (z_add X rfl (z_sld X S hL rfl (show 0 ≤ (i + 2) ∧ (i + 2) < (L : Int) by first | exact sx_in hi (by decide) | omega) ?_))))
  have sr12 : rng (sc xs (i + 2)) := sc_rng
  refine z_aload_n X (x := A 517) rfl (List.Mem.tail _ (List.Mem.tail _ (List.Mem.tail _ (List.Mem.head _)))) (z_callL X (rm := rmN 341) (As := [.ref (A 0), .int (Int32.ofInt (sc xs (i + 1))), .int (Int32.ofInt (sc xs (i + 2))), .ref (A 517)]) (st := []) rfl (by decide) rfl (by rw [E.1, E.2.1, E.2.2.1]; exact lw_lacks G I (by omega) (by omega) (by omega)) ⟨by rw [E.2.2.2]; exact (show 13 + 1 ≤ 2048 by decide), by rw [E.2.2.2]; exact (show 8 + (5 + 11) + 273 ≤ 84000 by decide), by rw [E.2.2.2]; exact (show ce + 2 ≤ 601024 by first | exact rmo_1 hce (by decide) | exact rmo_2 hce (by decide) | omega), by rw [E.2.2.2]; exact (show sl + 12 ≤ 7293034 by first | exact rmo_1 hsl (by decide) | exact rmo_2 hsl (by decide) | omega)⟩ (Nat.le_of_ble_eq_true rfl) (fun vv A s13 hA2 hq => ?_) (fun ee A s13 hA2 hq => ?_))
  rotate_left
  · obtain ⟨Is13, Fs13, e14, hv, hrs13, hps13⟩ := hq; cases hv
  obtain ⟨Is13, Fs13, e14, hv, hrs13, hps13⟩ := hq
  cases hv
  rw [← hA2 0 (by decide)]
  rw [← hA2 179 (by decide)]
  rw [← hA2 517 (by decide)]
  have JRLx_s13 : RLx s13 := RLx_fm Fs13 (by decide) jR
  have JFEQ_s13 : FEQ s13 := FEQ_fm Fs13 (by decide) jFEQ
  have JRWJ_s13 : RWJ s13 := RWJ_fm Fs13 (by decide +kernel) jRWJ
  have JFTK_s13 : FTK s13 := FTK_fm Fs13 (by decide) jFTK
  have JARJ_s13 : ARJ s13 := ARJ_fm Fs13 ⟨by decide +kernel, by decide +kernel, by decide +kernel, by decide +kernel, by decide +kernel, by decide +kernel, by decide +kernel, by decide +kernel⟩ jARJ
  have JPTJ_s13 : PTJ s13 := PTJ_fm Fs13 (by decide +kernel) jPTJ
  have ws13_0 : iI s13 0 = iI s 0 := fm_iq Fs13 rfl
  have ws13_74 : iI s13 74 = iI s 74 := fm_iq Fs13 rfl
  have ws13_9 : iI s13 9 = iI s 9 := fm_iq Fs13 rfl
  have ws13_90 : iI s13 90 = iI s 90 := fm_iq Fs13 rfl
  have ws13_20 : iI s13 20 = iI s 20 := fm_iq Fs13 rfl
  have ws13_98 : iI s13 98 = iI s 98 := fm_iq Fs13 rfl
  have ws13_70 : iI s13 70 = iI s 70 := fm_iq Fs13 rfl
  have ws13_107 : iI s13 107 = iI s 107 := fm_iq Fs13 rfl
  have ws13_12 : iI s13 12 = iI s 12 := fm_iq Fs13 rfl
  have ws13_89 : iI s13 89 = iI s 89 := fm_iq Fs13 rfl
  show WS k 1388 [(0, .ref q1), (1, .ref (A 0)), (2, .ref (A 179)), (3, .ref (A 517)), (4, .int (Int32.ofInt i))] [.int (Int32.ofInt e14)] (Wd A dT s13) (ce + 2) (sl + 12)
  refine z_store X (lv' := [(5, .int (Int32.ofInt e14)), (0, .ref q1), (1, .ref (A 0)), (2, .ref (A 179)), (3, .ref (A 517)), (4, .int (Int32.ofInt i))]) rfl (by decide) (fun _ h => h) (z_aload_n X (x := A 179) rfl (List.Mem.tail _ (List.Mem.tail _ (List.Mem.tail _ (List.Mem.head _)))) (z_aload_n X (x := q1) rfl (List.Mem.tail _ (List.Mem.head _)) (z_load X (x := i) rfl (List.Mem.tail _ (List.Mem.tail _ (List.Mem.tail _ (List.Mem.tail _ (List.Mem.tail _ (List.Mem.head _)))))) (z_const X rfl (z_add X rfl (z_sld X S hL rfl (show 0 ≤ (i + 1) ∧ (i + 1) < (L : Int) by first | exact sx_in hi (by decide) | omega) ?_))))))
  have sr15 : rng (sc xs (i + 1)) := sc_rng
  refine z_aload_n X (x := q1) rfl (List.Mem.tail _ (List.Mem.head _)) (z_load X (x := i) rfl (List.Mem.tail _ (List.Mem.tail _ (List.Mem.tail _ (List.Mem.tail _ (List.Mem.tail _ (List.Mem.head _)))))) (z_const X rfl (z_add X rfl (z_sld X S hL rfl (show 0 ≤ (i + 2) ∧ (i + 2) < (L : Int) by first | exact sx_in hi (by decide) | omega) ?_))))
  have sr16 : rng (sc xs (i + 2)) := sc_rng
  refine z_callV X 179 (rm := rmN 277) (As := [.int (Int32.ofInt (sc xs (i + 1))), .int (Int32.ofInt (sc xs (i + 2)))]) (st := []) rfl rfl (by decide) rfl (by rw [E.1, E.2.1, E.2.2.1]; exact k_lacks G Is13 JRLx_s13 (by first | exact ⟨sr15.1, sr15.2⟩ | omega) (by first | exact ⟨sr16.1, sr16.2⟩ | omega) (by first | exact oq_b44a1c7f ws13_89 p1 b10.1 | omega)) ⟨by rw [E.2.2.2]; exact (show 64 + 1 ≤ 2048 from oq_5cbe2cb6), by rw [E.2.2.2]; exact (show 8 + (3 + 11) + 2742 ≤ 84000 from oq_151ba25b), by rw [E.2.2.2]; exact (show (ce + 2) + 3 ≤ 601024 by omega), by rw [E.2.2.2]; exact (show (sl + 12) + 24 ≤ 7293034 by omega)⟩ (Nat.le_of_ble_eq_true rfl) (fun vv s17 hq => ?_) (fun ee s17 hq => ?_)
  rotate_left
  · obtain ⟨Is17, Fs17, JRLx_s17, e18, hv, hrs17, hps17⟩ := hq; cases hv
  obtain ⟨Is17, Fs17, JRLx_s17, e18, hv, hrs17, hps17⟩ := hq
  cases hv
  have JRLx_s17 : RLx s17 := RLx_fm Fs17 (by decide) JRLx_s13
  have JFEQ_s17 : FEQ s17 := FEQ_fm Fs17 (by decide) JFEQ_s13
  have JRWJ_s17 : RWJ s17 := RWJ_fm Fs17 (by decide +kernel) JRWJ_s13
  have JFTK_s17 : FTK s17 := FTK_fm Fs17 (by decide) JFTK_s13
  have JARJ_s17 : ARJ s17 := ARJ_fm Fs17 ⟨by decide +kernel, by decide +kernel, by decide +kernel, by decide +kernel, by decide +kernel, by decide +kernel, by decide +kernel, by decide +kernel⟩ JARJ_s13
  have JPTJ_s17 : PTJ s17 := PTJ_fm Fs17 (by decide +kernel) JPTJ_s13
  have ws17_0 : iI s17 0 = iI s13 0 := fm_iq Fs17 rfl
  have ws17_74 : iI s17 74 = iI s13 74 := fm_iq Fs17 rfl
  have ws17_9 : iI s17 9 = iI s13 9 := fm_iq Fs17 rfl
  have ws17_90 : iI s17 90 = iI s13 90 := fm_iq Fs17 rfl
  have ws17_20 : iI s17 20 = iI s13 20 := fm_iq Fs17 rfl
  have ws17_98 : iI s17 98 = iI s13 98 := fm_iq Fs17 rfl
  have ws17_70 : iI s17 70 = iI s13 70 := fm_iq Fs17 rfl
  have ws17_107 : iI s17 107 = iI s13 107 := fm_iq Fs17 rfl
  have ws17_12 : iI s17 12 = iI s13 12 := fm_iq Fs17 rfl
  have b19 := bi_89 Is17
  have wos17 : iO s17 = iO s13 := fm_o Fs17 (by decide)
  show WS k 1406 [(5, .int (Int32.ofInt e14)), (0, .ref q1), (1, .ref (A 0)), (2, .ref (A 179)), (3, .ref (A 517)), (4, .int (Int32.ofInt i))] [.int (Int32.ofInt e18)] (Wd A dT s17) ((ce + 2) + 3) ((sl + 12) + 24)
  refine z_store X (lv' := [(6, .int (Int32.ofInt e18)), (5, .int (Int32.ofInt e14)), (0, .ref q1), (1, .ref (A 0)), (2, .ref (A 179)), (3, .ref (A 517)), (4, .int (Int32.ofInt i))]) rfl (by decide) (fun _ h => h) (z_goto X (t := 1894) rfl rfl (w_widen (ce' := ce + 29) (sl' := sl + 222) (by first | exact Nat.le_add_right _ _ | exact Nat.add_le_add_left (by decide) _ | omega) (by first | exact Nat.le_add_right _ _ | exact Nat.add_le_add_left (by decide) _ | omega) ?_))
  exact WS_lv (lv := [(0, .ref q1), (1, .ref (A 0)), (2, .ref (A 179)), (3, .ref (A 517)), (4, .int (Int32.ofInt i))]) (List.forall_mem_cons.mpr ⟨(List.Mem.tail _ (List.Mem.tail _ (List.Mem.head _))), (List.forall_mem_cons.mpr ⟨(List.Mem.tail _ (List.Mem.tail _ (List.Mem.tail _ (List.Mem.head _)))), (List.forall_mem_cons.mpr ⟨(List.Mem.tail _ (List.Mem.tail _ (List.Mem.tail _ (List.Mem.tail _ (List.Mem.head _))))), (List.forall_mem_cons.mpr ⟨(List.Mem.tail _ (List.Mem.tail _ (List.Mem.tail _ (List.Mem.tail _ (List.Mem.tail _ (List.Mem.head _)))))), (List.forall_mem_cons.mpr ⟨(List.Mem.tail _ (List.Mem.tail _ (List.Mem.tail _ (List.Mem.tail _ (List.Mem.tail _ (List.Mem.tail _ (List.Mem.head _))))))), (fun q h => absurd h List.not_mem_nil)⟩)⟩)⟩)⟩)⟩) (hk A _ Is17 JRLx_s17 JFEQ_s17 JRWJ_s17 JFTK_s17 JARJ_s17 JPTJ_s17 (by first | exact hps17 | omega) (by first | exact oq_d7ce4408 ws17_12 ws13_12 p2 | omega) (by first | exact oq_5bcdc35f ws17_74 ws17_0 ws13_74 ws13_0 p3 | omega) (by first | exact oq_5bcdc35f ws17_90 ws17_9 ws13_90 ws13_9 p4 | omega) (by first | exact oq_5bcdc35f ws17_98 ws17_20 ws13_98 ws13_20 p5 | omega) (by first | exact oq_5bcdc35f ws17_107 ws17_70 ws13_107 ws13_70 p6 | omega))
theorem lc_33 (G : GX l s0 D tys a0 dT) (GR : RS0 s0) (SF : SF0 s0) (GT : TXs0 s0) (GW : TXw0 s0) {k : kx_T} (X : AX k 350 dT) (E : kL k = l ∧ kS0 k = s0 ∧ kD k = D ∧ kR k = room_1) {q1 L : Nat} {xs : Nat → Int32} (S : SX k q1 L xs) (hL : L ≤ 3072) (I : Bd s) (jR : RLx s) (jFEQ : FEQ s) (jRWJ : RWJ s) (jFTK : FTK s) (jARJ : ARJ s) (jPTJ : PTJ s) (p1 : iI s 89 = 1) (p2 : iI s 12 ≤ 8) (p3 : iI s 0 = iI s 74) (p4 : iI s 9 = iI s 90) (p5 : iI s 20 = iI s 98) (p6 : iI s 70 = iI s 107) {i : Int} (hi : 0 ≤ i ∧ i + 6 ≤ (L : Int)) {ce sl : Nat} (hce : ce + 29 ≤ 601024) (hsl : sl + 222 ≤ 7293034) (hk : ∀ (A : Nat → Nat) (t : PS), Bd t → RLx t → FEQ t → RWJ t → FTK t → ARJ t → PTJ t → iI t 89 = 1 → iI t 12 ≤ 8 → iI t 0 = iI t 74 → iI t 9 = iI t 90 → iI t 20 = iI t 98 → iI t 70 = iI t 107 → WS k 1894 [(0, .ref q1), (1, .ref (A 0)), (2, .ref (A 179)), (3, .ref (A 517)), (4, .int (Int32.ofInt i))] [] (Wd A dT t) (ce + 29) (sl + 222)) : WS k 1411 [(0, .ref q1), (1, .ref (A 0)), (2, .ref (A 179)), (3, .ref (A 517)), (4, .int (Int32.ofInt i))] [] (Wd A dT s) ce sl := by
  have F : Fm [22, 23, 24, 34, 35, 38, 73, 104, 77, 75, 78, 79, 80, 81, 89] [33, 26, 27, 28, 29, 30, 31, 32, 20, 48, 47, 49, 50, 51, 53, 54, 55, 56, 1460, 161, 230, 202, 204, 205, 206, 207, 208, 209, 210, 211, 212, 213, 214, 215, 216, 217, 218, 219, 220, 221, 222, 223, 224, 225, 226, 227, 203, 395, 396, 397, 245, 246, 247, 248, 249, 250, 251, 252, 253, 254, 255, 256, 257, 258, 259, 260, 261, 262, 263, 264, 265, 266, 267, 268, 269, 270, 271, 272, 273, 274, 275, 276, 277, 278, 279, 280, 281, 282, 283, 284, 285, 286, 287, 288, 289, 290, 291, 292, 293, 294, 295, 296, 297, 298, 299, 300, 301, 302, 303, 304, 305, 306, 307, 308, 309, 310, 311, 312, 313, 314, 315, 316, 317, 318, 319, 320, 321, 322, 323, 324, 325, 326, 327, 328, 329, 330, 331, 332, 333, 334, 335, 336, 337, 338, 339, 340, 341, 342, 343, 344, 345, 346, 347, 348, 349, 350, 351, 352, 353, 354, 355, 356, 357, 358, 359, 360, 361, 362, 363, 364, 365, 366, 367, 368, 369, 370, 371, 372, 373, 374, 375, 376, 377, 378, 379, 380, 381, 382, 383, 384, 385, 386, 387, 388, 389, 390, 391, 392, 393, 394] s s := fm_rf _ _ s
  have b1 := bi_0 I
  have b2 := bi_74 I
  have b3 := bi_9 I
  have b4 := bi_90 I
  have b5 := bi_20 I
  have b6 := bi_98 I
  have b7 := bi_70 I
  have b8 := bi_107 I
  have b9 := bi_12 I
  have b10 := bi_89 I
  refine z_aload_n X (x := A 0) rfl (List.Mem.tail _ (List.Mem.head _)) (z_aload_n X (x := q1) rfl (List.Mem.head _) (z_load X (x := i) rfl (List.Mem.tail _ (List.Mem.tail _ (List.Mem.tail _ (List.Mem.tail _ (List.Mem.head _))))) (z_const X rfl (z_add X rfl (z_sld X S hL rfl (show 0 ≤ (i + 1) ∧ (i + 1) < (L : Int) by first | exact sx_in hi (by decide) | omega) ?_)))))
  have sr11 : rng (sc xs (i + 1)) := sc_rng
  refine z_aload_n X (x := A 517) rfl (List.Mem.tail _ (List.Mem.tail _ (List.Mem.tail _ (List.Mem.head _)))) (z_callL X (rm := rmN 342) (As := [.ref (A 0), .int (Int32.ofInt (sc xs (i + 1))), .ref (A 517)]) (st := []) rfl (by decide) rfl (by rw [E.1, E.2.1, E.2.2.1]; exact lw_enough G I (by omega) (by omega)) ⟨by rw [E.2.2.2]; exact (show 13 + 1 ≤ 2048 by decide), by rw [E.2.2.2]; exact (show 8 + (4 + 11) + 273 ≤ 84000 by decide), by rw [E.2.2.2]; exact (show ce + 1 ≤ 601024 by first | exact rmo_1 hce (by decide) | exact rmo_2 hce (by decide) | omega), by rw [E.2.2.2]; exact (show sl + 6 ≤ 7293034 by first | exact rmo_1 hsl (by decide) | exact rmo_2 hsl (by decide) | omega)⟩ (Nat.le_of_ble_eq_true rfl) (fun vv A s12 hA2 hq => ?_) (fun ee A s12 hA2 hq => ?_))
  rotate_left
  · obtain ⟨Is12, Fs12, e13, hv, hrs12, hps12⟩ := hq; cases hv
  obtain ⟨Is12, Fs12, e13, hv, hrs12, hps12⟩ := hq
  cases hv
  rw [← hA2 0 (by decide)]
  rw [← hA2 179 (by decide)]
  rw [← hA2 517 (by decide)]
  have JRLx_s12 : RLx s12 := RLx_fm Fs12 (by decide) jR
  have JFEQ_s12 : FEQ s12 := FEQ_fm Fs12 (by decide) jFEQ
  have JRWJ_s12 : RWJ s12 := RWJ_fm Fs12 (by decide +kernel) jRWJ
  have JFTK_s12 : FTK s12 := FTK_fm Fs12 (by decide) jFTK
  have JARJ_s12 : ARJ s12 := ARJ_fm Fs12 ⟨by decide +kernel, by decide +kernel, by decide +kernel, by decide +kernel, by decide +kernel, by decide +kernel, by decide +kernel, by decide +kernel⟩ jARJ
  have JPTJ_s12 : PTJ s12 := PTJ_fm Fs12 (by decide +kernel) jPTJ
  have ws12_0 : iI s12 0 = iI s 0 := fm_iq Fs12 rfl
  have ws12_74 : iI s12 74 = iI s 74 := fm_iq Fs12 rfl
  have ws12_9 : iI s12 9 = iI s 9 := fm_iq Fs12 rfl
  have ws12_90 : iI s12 90 = iI s 90 := fm_iq Fs12 rfl
  have ws12_20 : iI s12 20 = iI s 20 := fm_iq Fs12 rfl
  have ws12_98 : iI s12 98 = iI s 98 := fm_iq Fs12 rfl
  have ws12_70 : iI s12 70 = iI s 70 := fm_iq Fs12 rfl
  have ws12_107 : iI s12 107 = iI s 107 := fm_iq Fs12 rfl
  have ws12_12 : iI s12 12 = iI s 12 := fm_iq Fs12 rfl
  have ws12_89 : iI s12 89 = iI s 89 := fm_iq Fs12 rfl
  show WS k 1422 [(0, .ref q1), (1, .ref (A 0)), (2, .ref (A 179)), (3, .ref (A 517)), (4, .int (Int32.ofInt i))] [.int (Int32.ofInt e13)] (Wd A dT s12) (ce + 1) (sl + 6)
  refine z_store X (lv' := [(5, .int (Int32.ofInt e13)), (0, .ref q1), (1, .ref (A 0)), (2, .ref (A 179)), (3, .ref (A 517)), (4, .int (Int32.ofInt i))]) rfl (by decide) (fun _ h => h) (z_aload_n X (x := A 179) rfl (List.Mem.tail _ (List.Mem.tail _ (List.Mem.tail _ (List.Mem.head _)))) (z_aload_n X (x := q1) rfl (List.Mem.tail _ (List.Mem.head _)) (z_load X (x := i) rfl (List.Mem.tail _ (List.Mem.tail _ (List.Mem.tail _ (List.Mem.tail _ (List.Mem.tail _ (List.Mem.head _)))))) (z_const X rfl (z_add X rfl (z_sld X S hL rfl (show 0 ≤ (i + 1) ∧ (i + 1) < (L : Int) by first | exact sx_in hi (by decide) | omega) ?_))))))
  have sr14 : rng (sc xs (i + 1)) := sc_rng
  refine z_callV X 179 (rm := rmN 278) (As := [.int (Int32.ofInt (sc xs (i + 1)))]) (st := []) rfl rfl (by decide) rfl (by rw [E.1, E.2.1, E.2.2.1]; exact k_enough G Is12 JRLx_s12 (by first | exact ⟨sr14.1, sr14.2⟩ | omega) (by first | exact oq_b44a1c7f ws12_89 p1 b10.1 | omega)) ⟨by rw [E.2.2.2]; exact (show 64 + 1 ≤ 2048 from oq_5cbe2cb6), by rw [E.2.2.2]; exact (show 8 + (3 + 11) + 2742 ≤ 84000 from oq_151ba25b), by rw [E.2.2.2]; exact (show (ce + 1) + 24 ≤ 601024 by omega), by rw [E.2.2.2]; exact (show (sl + 6) + 192 ≤ 7293034 by omega)⟩ (Nat.le_of_ble_eq_true rfl) (fun vv s15 hq => ?_) (fun ee s15 hq => ?_)
  rotate_left
  · obtain ⟨Is15, Fs15, JRLx_s15, e16, hv, hrs15, hps15⟩ := hq; cases hv
  obtain ⟨Is15, Fs15, JRLx_s15, e16, hv, hrs15, hps15⟩ := hq
  cases hv
  have JRLx_s15 : RLx s15 := RLx_fm Fs15 (by decide) JRLx_s12
  have JFEQ_s15 : FEQ s15 := FEQ_fm Fs15 (by decide) JFEQ_s12
  have JRWJ_s15 : RWJ s15 := RWJ_fm Fs15 (by decide +kernel) JRWJ_s12
  have JFTK_s15 : FTK s15 := FTK_fm Fs15 (by decide) JFTK_s12
  have JARJ_s15 : ARJ s15 := ARJ_fm Fs15 ⟨by decide +kernel, by decide +kernel, by decide +kernel, by decide +kernel, by decide +kernel, by decide +kernel, by decide +kernel, by decide +kernel⟩ JARJ_s12
  have JPTJ_s15 : PTJ s15 := PTJ_fm Fs15 (by decide +kernel) JPTJ_s12
  have ws15_0 : iI s15 0 = iI s12 0 := fm_iq Fs15 rfl
  have ws15_74 : iI s15 74 = iI s12 74 := fm_iq Fs15 rfl
  have ws15_9 : iI s15 9 = iI s12 9 := fm_iq Fs15 rfl
  have ws15_90 : iI s15 90 = iI s12 90 := fm_iq Fs15 rfl
  have ws15_20 : iI s15 20 = iI s12 20 := fm_iq Fs15 rfl
  have ws15_98 : iI s15 98 = iI s12 98 := fm_iq Fs15 rfl
  have ws15_70 : iI s15 70 = iI s12 70 := fm_iq Fs15 rfl
  have ws15_107 : iI s15 107 = iI s12 107 := fm_iq Fs15 rfl
  have ws15_12 : iI s15 12 = iI s12 12 := fm_iq Fs15 rfl
  have b17 := bi_89 Is15
  have wos15 : iO s15 = iO s12 := fm_o Fs15 (by decide)
  show WS k 1434 [(5, .int (Int32.ofInt e13)), (0, .ref q1), (1, .ref (A 0)), (2, .ref (A 179)), (3, .ref (A 517)), (4, .int (Int32.ofInt i))] [.int (Int32.ofInt e16)] (Wd A dT s15) ((ce + 1) + 24) ((sl + 6) + 192)
  refine z_store X (lv' := [(6, .int (Int32.ofInt e16)), (5, .int (Int32.ofInt e13)), (0, .ref q1), (1, .ref (A 0)), (2, .ref (A 179)), (3, .ref (A 517)), (4, .int (Int32.ofInt i))]) rfl (by decide) (fun _ h => h) (z_goto X (t := 1894) rfl rfl (w_widen (ce' := ce + 29) (sl' := sl + 222) (by first | exact Nat.le_add_right _ _ | exact Nat.add_le_add_left (by decide) _ | omega) (by first | exact Nat.le_add_right _ _ | exact Nat.add_le_add_left (by decide) _ | omega) ?_))
  exact WS_lv (lv := [(0, .ref q1), (1, .ref (A 0)), (2, .ref (A 179)), (3, .ref (A 517)), (4, .int (Int32.ofInt i))]) (List.forall_mem_cons.mpr ⟨(List.Mem.tail _ (List.Mem.tail _ (List.Mem.head _))), (List.forall_mem_cons.mpr ⟨(List.Mem.tail _ (List.Mem.tail _ (List.Mem.tail _ (List.Mem.head _)))), (List.forall_mem_cons.mpr ⟨(List.Mem.tail _ (List.Mem.tail _ (List.Mem.tail _ (List.Mem.tail _ (List.Mem.head _))))), (List.forall_mem_cons.mpr ⟨(List.Mem.tail _ (List.Mem.tail _ (List.Mem.tail _ (List.Mem.tail _ (List.Mem.tail _ (List.Mem.head _)))))), (List.forall_mem_cons.mpr ⟨(List.Mem.tail _ (List.Mem.tail _ (List.Mem.tail _ (List.Mem.tail _ (List.Mem.tail _ (List.Mem.tail _ (List.Mem.head _))))))), (fun q h => absurd h List.not_mem_nil)⟩)⟩)⟩)⟩)⟩) (hk A _ Is15 JRLx_s15 JFEQ_s15 JRWJ_s15 JFTK_s15 JARJ_s15 JPTJ_s15 (by first | exact hps15 | omega) (by first | exact oq_d7ce4408 ws15_12 ws12_12 p2 | omega) (by first | exact oq_5bcdc35f ws15_74 ws15_0 ws12_74 ws12_0 p3 | omega) (by first | exact oq_5bcdc35f ws15_90 ws15_9 ws12_90 ws12_9 p4 | omega) (by first | exact oq_5bcdc35f ws15_98 ws15_20 ws12_98 ws12_20 p5 | omega) (by first | exact oq_5bcdc35f ws15_107 ws15_70 ws12_107 ws12_70 p6 | omega))
theorem lc_34 (G : GX l s0 D tys a0 dT) (GR : RS0 s0) (SF : SF0 s0) (GT : TXs0 s0) (GW : TXw0 s0) {k : kx_T} (X : AX k 350 dT) (E : kL k = l ∧ kS0 k = s0 ∧ kD k = D ∧ kR k = room_1) {q1 L : Nat} {xs : Nat → Int32} (S : SX k q1 L xs) (hL : L ≤ 3072) (I : Bd s) (jR : RLx s) (jFEQ : FEQ s) (jRWJ : RWJ s) (jFTK : FTK s) (jARJ : ARJ s) (jPTJ : PTJ s) (p1 : iI s 89 = 1) (p2 : iI s 12 ≤ 8) (p3 : iI s 0 = iI s 74) (p4 : iI s 9 = iI s 90) (p5 : iI s 20 = iI s 98) (p6 : iI s 70 = iI s 107) {i : Int} (hi : 0 ≤ i ∧ i + 6 ≤ (L : Int)) {ce sl : Nat} (hce : ce + 29 ≤ 601024) (hsl : sl + 222 ≤ 7293034) (hk : ∀ (A : Nat → Nat) (t : PS), Bd t → RLx t → FEQ t → RWJ t → FTK t → ARJ t → PTJ t → iI t 89 = 1 → iI t 12 ≤ 8 → iI t 0 = iI t 74 → iI t 9 = iI t 90 → iI t 20 = iI t 98 → iI t 70 = iI t 107 → WS k 1894 [(0, .ref q1), (1, .ref (A 0)), (2, .ref (A 179)), (3, .ref (A 517)), (4, .int (Int32.ofInt i))] [] (Wd A dT t) (ce + 29) (sl + 222)) : WS k 1439 [(0, .ref q1), (1, .ref (A 0)), (2, .ref (A 179)), (3, .ref (A 517)), (4, .int (Int32.ofInt i))] [] (Wd A dT s) ce sl := by
  have F : Fm [1000, 1001, 73] [1460, 399] s s := fm_rf _ _ s
  have b1 := bi_0 I
  have b2 := bi_74 I
  have b3 := bi_9 I
  have b4 := bi_90 I
  have b5 := bi_20 I
  have b6 := bi_98 I
  have b7 := bi_70 I
  have b8 := bi_107 I
  have b9 := bi_12 I
  have b10 := bi_89 I
  refine z_aload_n X (x := A 0) rfl (List.Mem.tail _ (List.Mem.head _)) (z_aload_n X (x := q1) rfl (List.Mem.head _) (z_load X (x := i) rfl (List.Mem.tail _ (List.Mem.tail _ (List.Mem.tail _ (List.Mem.tail _ (List.Mem.head _))))) (z_const X rfl (z_add X rfl (z_sld X S hL rfl (show 0 ≤ (i + 1) ∧ (i + 1) < (L : Int) by first | exact sx_in hi (by decide) | omega) ?_)))))
  have sr11 : rng (sc xs (i + 1)) := sc_rng
  refine z_aload_n X (x := q1) rfl (List.Mem.head _) (z_load X (x := i) rfl (List.Mem.tail _ (List.Mem.tail _ (List.Mem.tail _ (List.Mem.tail _ (List.Mem.head _))))) (z_const X rfl (z_add X rfl (z_sld X S hL rfl (show 0 ≤ (i + 2) ∧ (i + 2) < (L : Int) by first | exact sx_in hi (by decide) | omega) ?_))))
  have sr12 : rng (sc xs (i + 2)) := sc_rng
  have N13 : ∀ e14 : Int, ((((sc xs (i + 2)) = 0) ∧ e14 = 0) ∨ (((sc xs (i + 2)) ≠ 0) ∧ e14 = 1)) → WS k 1460 [(0, .ref q1), (1, .ref (A 0)), (2, .ref (A 179)), (3, .ref (A 517)), (4, .int (Int32.ofInt i))] [.int (Int32.ofInt e14), .int (Int32.ofInt (sc xs (i + 1))), .ref (A 0)] (Wd A dT s) ce sl := by
    intro e14 he14
    have re14 : 0 ≤ e14 ∧ e14 ≤ 1 := by first | (clear he14; omega) | omega
    refine z_aload_n X (x := A 517) rfl (List.Mem.tail _ (List.Mem.tail _ (List.Mem.tail _ (List.Mem.head _)))) (z_callL X (rm := rmN 343) (As := [.ref (A 0), .int (Int32.ofInt (sc xs (i + 1))), .int (Int32.ofInt e14), .ref (A 517)]) (st := []) rfl (by decide) rfl (by rw [E.1, E.2.1, E.2.2.1]; exact lw_storm G I (by first | (clear he14; omega) | omega) (by first | (clear he14; omega) | omega)) ⟨by rw [E.2.2.2]; exact (show 9 + 1 ≤ 2048 by decide), by rw [E.2.2.2]; exact (show 8 + (5 + 11) + 168 ≤ 84000 by decide), by rw [E.2.2.2]; exact (show ce + 1 ≤ 601024 by first | exact rmo_1 hce (by decide) | exact rmo_2 hce (by decide) | omega), by rw [E.2.2.2]; exact (show sl + 6 ≤ 7293034 by first | exact rmo_1 hsl (by decide) | exact rmo_2 hsl (by decide) | omega)⟩ (Nat.le_of_ble_eq_true rfl) (fun vv A s15 hA2 hq => ?_) (fun ee A s15 hA2 hq => ?_))
    rotate_left
    · obtain ⟨Is15, Fs15, e16, hv, hrs15, hps15⟩ := hq; cases hv
    obtain ⟨Is15, Fs15, e16, hv, hrs15, hps15⟩ := hq
    cases hv
    rw [← hA2 0 (by decide)]
    rw [← hA2 179 (by decide)]
    rw [← hA2 517 (by decide)]
    have JRLx_s15 : RLx s15 := RLx_fm Fs15 (by decide) jR
    have JFEQ_s15 : FEQ s15 := FEQ_fm Fs15 (by decide) jFEQ
    have JRWJ_s15 : RWJ s15 := RWJ_fm Fs15 (by decide +kernel) jRWJ
    have JFTK_s15 : FTK s15 := FTK_fm Fs15 (by decide) jFTK
    have JARJ_s15 : ARJ s15 := ARJ_fm Fs15 ⟨by decide +kernel, by decide +kernel, by decide +kernel, by decide +kernel, by decide +kernel, by decide +kernel, by decide +kernel, by decide +kernel⟩ jARJ
    have JPTJ_s15 : PTJ s15 := PTJ_fm Fs15 (by decide +kernel) jPTJ
    have ws15_0 : iI s15 0 = iI s 0 := fm_iq Fs15 rfl
    have ws15_74 : iI s15 74 = iI s 74 := fm_iq Fs15 rfl
    have ws15_9 : iI s15 9 = iI s 9 := fm_iq Fs15 rfl
    have ws15_90 : iI s15 90 = iI s 90 := fm_iq Fs15 rfl
    have ws15_20 : iI s15 20 = iI s 20 := fm_iq Fs15 rfl
    have ws15_98 : iI s15 98 = iI s 98 := fm_iq Fs15 rfl
    have ws15_70 : iI s15 70 = iI s 70 := fm_iq Fs15 rfl
    have ws15_107 : iI s15 107 = iI s 107 := fm_iq Fs15 rfl
    have ws15_12 : iI s15 12 = iI s 12 := fm_iq Fs15 rfl
    have ws15_89 : iI s15 89 = iI s 89 := fm_iq Fs15 rfl
    show WS k 1464 [(0, .ref q1), (1, .ref (A 0)), (2, .ref (A 179)), (3, .ref (A 517)), (4, .int (Int32.ofInt i))] [.int (Int32.ofInt e16)] (Wd A dT s15) (ce + 1) (sl + 6)
    refine z_store X (lv' := [(5, .int (Int32.ofInt e16)), (0, .ref q1), (1, .ref (A 0)), (2, .ref (A 179)), (3, .ref (A 517)), (4, .int (Int32.ofInt i))]) rfl (by decide) (fun _ h => h) (z_aload_n X (x := A 179) rfl (List.Mem.tail _ (List.Mem.tail _ (List.Mem.tail _ (List.Mem.head _)))) (z_aload_n X (x := q1) rfl (List.Mem.tail _ (List.Mem.head _)) (z_load X (x := i) rfl (List.Mem.tail _ (List.Mem.tail _ (List.Mem.tail _ (List.Mem.tail _ (List.Mem.tail _ (List.Mem.head _)))))) (z_const X rfl (z_add X rfl (z_sld X S hL rfl (show 0 ≤ (i + 1) ∧ (i + 1) < (L : Int) by first | exact sx_in hi (by decide) | omega) ?_))))))
    have sr17 : rng (sc xs (i + 1)) := sc_rng
    refine z_aload_n X (x := q1) rfl (List.Mem.tail _ (List.Mem.head _)) (z_load X (x := i) rfl (List.Mem.tail _ (List.Mem.tail _ (List.Mem.tail _ (List.Mem.tail _ (List.Mem.tail _ (List.Mem.head _)))))) (z_const X rfl (z_add X rfl (z_sld X S hL rfl (show 0 ≤ (i + 2) ∧ (i + 2) < (L : Int) by first | exact sx_in hi (by decide) | omega) ?_))))
    have sr18 : rng (sc xs (i + 2)) := sc_rng
    have N19 : ∀ e20 : Int, ((((sc xs (i + 2)) = 0) ∧ e20 = 0) ∨ (((sc xs (i + 2)) ≠ 0) ∧ e20 = 1)) → WS k 1487 [(5, .int (Int32.ofInt e16)), (0, .ref q1), (1, .ref (A 0)), (2, .ref (A 179)), (3, .ref (A 517)), (4, .int (Int32.ofInt i))] [.int (Int32.ofInt e20), .int (Int32.ofInt (sc xs (i + 1))), .ref (A 179)] (Wd A dT s15) (ce + 1) (sl + 6) := by
      intro e20 he20
      have re20 : 0 ≤ e20 ∧ e20 ≤ 1 := by first | (clear he20 he14; omega) | (clear he14; omega) | omega
      refine z_callV X 179 (rm := rmN 279) (As := [.int (Int32.ofInt (sc xs (i + 1))), .int (Int32.ofInt e20)]) (st := []) rfl rfl (by decide) rfl (by rw [E.1, E.2.1, E.2.2.1]; exact k_storm G Is15 (by first | exact ⟨sr17.1, sr17.2⟩ | omega) (by first | exact oq_54ac7134 re20.2 re20.1 he20 | omega)) ⟨by rw [E.2.2.2]; exact (show 7 + 1 ≤ 2048 from oq_4e6106eb), by rw [E.2.2.2]; exact (show 8 + (4 + 11) + 122 ≤ 84000 from oq_ebbf79c1), by rw [E.2.2.2]; exact (show (ce + 1) + 0 ≤ 601024 by first | (clear he20 he14; omega) | (clear he14; omega) | omega), by rw [E.2.2.2]; exact (show (sl + 6) + 0 ≤ 7293034 by first | (clear he20 he14; omega) | (clear he14; omega) | omega)⟩ (Nat.le_of_ble_eq_true rfl) (fun vv s21 hq => ?_) (fun ee s21 hq => ?_)
      rotate_left
      · obtain ⟨Is21, Fs21, e22, hv, hrs21, hps21⟩ := hq; cases hv
      obtain ⟨Is21, Fs21, e22, hv, hrs21, hps21⟩ := hq
      cases hv
      have JRLx_s21 : RLx s21 := RLx_fm Fs21 (by decide) JRLx_s15
      have JFEQ_s21 : FEQ s21 := FEQ_fm Fs21 (by decide) JFEQ_s15
      have JRWJ_s21 : RWJ s21 := RWJ_fm Fs21 (by decide +kernel) JRWJ_s15
      have JFTK_s21 : FTK s21 := FTK_fm Fs21 (by decide) JFTK_s15
      have JARJ_s21 : ARJ s21 := ARJ_fm Fs21 ⟨by decide +kernel, by decide +kernel, by decide +kernel, by decide +kernel, by decide +kernel, by decide +kernel, by decide +kernel, by decide +kernel⟩ JARJ_s15
      have JPTJ_s21 : PTJ s21 := PTJ_fm Fs21 (by decide +kernel) JPTJ_s15
      have ws21_0 : iI s21 0 = iI s15 0 := fm_iq Fs21 rfl
      have ws21_74 : iI s21 74 = iI s15 74 := fm_iq Fs21 rfl
      have ws21_9 : iI s21 9 = iI s15 9 := fm_iq Fs21 rfl
      have ws21_90 : iI s21 90 = iI s15 90 := fm_iq Fs21 rfl
      have ws21_20 : iI s21 20 = iI s15 20 := fm_iq Fs21 rfl
      have ws21_98 : iI s21 98 = iI s15 98 := fm_iq Fs21 rfl
      have ws21_70 : iI s21 70 = iI s15 70 := fm_iq Fs21 rfl
      have ws21_107 : iI s21 107 = iI s15 107 := fm_iq Fs21 rfl
      have ws21_12 : iI s21 12 = iI s15 12 := fm_iq Fs21 rfl
      have ws21_89 : iI s21 89 = iI s15 89 := fm_iq Fs21 rfl
      have wos21 : iO s21 = iO s15 := fm_o Fs21 (by decide)
      show WS k 1490 [(5, .int (Int32.ofInt e16)), (0, .ref q1), (1, .ref (A 0)), (2, .ref (A 179)), (3, .ref (A 517)), (4, .int (Int32.ofInt i))] [.int (Int32.ofInt e22)] (Wd A dT s21) (ce + 1) (sl + 6)
      refine z_store X (lv' := [(6, .int (Int32.ofInt e22)), (5, .int (Int32.ofInt e16)), (0, .ref q1), (1, .ref (A 0)), (2, .ref (A 179)), (3, .ref (A 517)), (4, .int (Int32.ofInt i))]) rfl (by decide) (fun _ h => h) (z_goto X (t := 1894) rfl rfl (w_widen (ce' := ce + 29) (sl' := sl + 222) (by first | exact Nat.le_add_right _ _ | exact Nat.add_le_add_left (by decide) _ | omega) (by first | exact Nat.le_add_right _ _ | exact Nat.add_le_add_left (by decide) _ | omega) ?_))
      exact WS_lv (lv := [(0, .ref q1), (1, .ref (A 0)), (2, .ref (A 179)), (3, .ref (A 517)), (4, .int (Int32.ofInt i))]) (List.forall_mem_cons.mpr ⟨(List.Mem.tail _ (List.Mem.tail _ (List.Mem.head _))), (List.forall_mem_cons.mpr ⟨(List.Mem.tail _ (List.Mem.tail _ (List.Mem.tail _ (List.Mem.head _)))), (List.forall_mem_cons.mpr ⟨(List.Mem.tail _ (List.Mem.tail _ (List.Mem.tail _ (List.Mem.tail _ (List.Mem.head _))))), (List.forall_mem_cons.mpr ⟨(List.Mem.tail _ (List.Mem.tail _ (List.Mem.tail _ (List.Mem.tail _ (List.Mem.tail _ (List.Mem.head _)))))), (List.forall_mem_cons.mpr ⟨(List.Mem.tail _ (List.Mem.tail _ (List.Mem.tail _ (List.Mem.tail _ (List.Mem.tail _ (List.Mem.tail _ (List.Mem.head _))))))), (fun q h => absurd h List.not_mem_nil)⟩)⟩)⟩)⟩)⟩) (hk A _ Is21 JRLx_s21 JFEQ_s21 JRWJ_s21 JFTK_s21 JARJ_s21 JPTJ_s21 (by first | exact oq_f34933ba ws21_89 ws15_89 p1 b10.1 | omega) (by first | exact oq_d7ce4408 ws21_12 ws15_12 p2 | omega) (by first | exact oq_5bcdc35f ws21_74 ws21_0 ws15_74 ws15_0 p3 | omega) (by first | exact oq_5bcdc35f ws21_90 ws21_9 ws15_90 ws15_9 p4 | omega) (by first | exact oq_5bcdc35f ws21_98 ws21_20 ws15_98 ws15_20 p5 | omega) (by first | exact oq_5bcdc35f ws21_107 ws21_70 ws15_107 ws15_70 p6 | omega))
    refine z_if_eq X (t := 1486) rfl rfl ⟨by first | exact sr18.1 | omega, by first | exact sr18.2 | omega⟩ (fun g23 => ?_) (fun g23 => ?_)
    ·
      exact z_const X rfl (N19 _ (Or.inl ⟨g23, rfl⟩))
    ·
      exact z_const X rfl (z_goto X (t := 1487) rfl rfl (N19 _ (Or.inr (⟨g23, rfl⟩))))
  refine z_if_eq X (t := 1459) rfl rfl ⟨by first | exact sr12.1 | omega, by first | exact sr12.2 | omega⟩ (fun g24 => ?_) (fun g24 => ?_)
  ·
    exact z_const X rfl (N13 _ (Or.inl ⟨g24, rfl⟩))
  ·
    exact z_const X rfl (z_goto X (t := 1460) rfl rfl (N13 _ (Or.inr (⟨g24, rfl⟩))))
theorem lc_35 (G : GX l s0 D tys a0 dT) (GR : RS0 s0) (SF : SF0 s0) (GT : TXs0 s0) (GW : TXw0 s0) {k : kx_T} (X : AX k 350 dT) (E : kL k = l ∧ kS0 k = s0 ∧ kD k = D ∧ kR k = room_1) {q1 L : Nat} {xs : Nat → Int32} (S : SX k q1 L xs) (hL : L ≤ 3072) (I : Bd s) (jR : RLx s) (jFEQ : FEQ s) (jRWJ : RWJ s) (jFTK : FTK s) (jARJ : ARJ s) (jPTJ : PTJ s) (p1 : iI s 89 = 1) (p2 : iI s 12 ≤ 8) (p3 : iI s 0 = iI s 74) (p4 : iI s 9 = iI s 90) (p5 : iI s 20 = iI s 98) (p6 : iI s 70 = iI s 107) {i : Int} (hi : 0 ≤ i ∧ i + 6 ≤ (L : Int)) {ce sl : Nat} (hce : ce + 29 ≤ 601024) (hsl : sl + 222 ≤ 7293034) (hk : ∀ (A : Nat → Nat) (t : PS), Bd t → RLx t → FEQ t → RWJ t → FTK t → ARJ t → PTJ t → iI t 89 = 1 → iI t 12 ≤ 8 → iI t 0 = iI t 74 → iI t 9 = iI t 90 → iI t 20 = iI t 98 → iI t 70 = iI t 107 → WS k 1894 [(0, .ref q1), (1, .ref (A 0)), (2, .ref (A 179)), (3, .ref (A 517)), (4, .int (Int32.ofInt i))] [] (Wd A dT t) (ce + 29) (sl + 222)) : WS k 1495 [(0, .ref q1), (1, .ref (A 0)), (2, .ref (A 179)), (3, .ref (A 517)), (4, .int (Int32.ofInt i))] [] (Wd A dT s) ce sl := by
  have F : Fm [43, 44, 46, 47, 49, 50, 52, 53, 55, 56, 58, 59, 61, 62, 64, 65, 67, 68, 42, 39, 40, 41, 73, 105, 106, 77, 75, 78, 79, 80, 81] [57, 58, 67, 62, 77, 78, 79, 73, 87, 80, 81, 82, 83, 84, 85, 86, 96, 89, 90, 91, 92, 93, 94, 95, 105, 98, 99, 100, 101, 102, 103, 104, 114, 107, 108, 109, 110, 111, 112, 113, 123, 116, 117, 118, 119, 120, 121, 122, 132, 125, 126, 127, 128, 129, 130, 131, 141, 134, 135, 136, 137, 138, 139, 140, 150, 143, 144, 145, 146, 147, 148, 149, 20, 76, 74, 75, 72, 1059, 1060, 1061, 1063, 1460, 401, 400, 403, 404, 232, 402, 405, 406, 407, 408, 409, 410, 411, 412, 413, 414, 415, 416, 202, 204, 205, 206, 207, 208, 209, 210, 211, 212, 213, 214, 215, 216, 217, 218, 219, 220, 221, 222, 223, 224, 225, 226, 227, 203, 161, 230] s s := fm_rf _ _ s
  have b1 := bi_0 I
  have b2 := bi_74 I
  have b3 := bi_9 I
  have b4 := bi_90 I
  have b5 := bi_20 I
  have b6 := bi_98 I
  have b7 := bi_70 I
  have b8 := bi_107 I
  have b9 := bi_12 I
  have b10 := bi_89 I
  refine z_aload_n X (x := A 0) rfl (List.Mem.tail _ (List.Mem.head _)) (z_aload_n X (x := q1) rfl (List.Mem.head _) (z_load X (x := i) rfl (List.Mem.tail _ (List.Mem.tail _ (List.Mem.tail _ (List.Mem.tail _ (List.Mem.head _))))) (z_const X rfl (z_add X rfl (z_sld X S hL rfl (show 0 ≤ (i + 1) ∧ (i + 1) < (L : Int) by first | exact sx_in hi (by decide) | omega) ?_)))))
  have sr11 : rng (sc xs (i + 1)) := sc_rng
  refine z_aload_n X (x := q1) rfl (List.Mem.head _) (z_load X (x := i) rfl (List.Mem.tail _ (List.Mem.tail _ (List.Mem.tail _ (List.Mem.tail _ (List.Mem.head _))))) (z_const X rfl (z_add X rfl (z_sld X S hL rfl (show 0 ≤ (i + 2) ∧ (i + 2) < (L : Int) by first | exact sx_in hi (by decide) | omega) ?_))))
  have sr12 : rng (sc xs (i + 2)) := sc_rng
  refine z_aload_n X (x := q1) rfl (List.Mem.head _) (z_load X (x := i) rfl (List.Mem.tail _ (List.Mem.tail _ (List.Mem.tail _ (List.Mem.tail _ (List.Mem.head _))))) (z_const X rfl (z_add X rfl (z_sld X S hL rfl (show 0 ≤ (i + 3) ∧ (i + 3) < (L : Int) by first | exact sx_in hi (by decide) | omega) ?_))))
  have sr13 : rng (sc xs (i + 3)) := sc_rng
  refine z_aload_n X (x := q1) rfl (List.Mem.head _) (z_load X (x := i) rfl (List.Mem.tail _ (List.Mem.tail _ (List.Mem.tail _ (List.Mem.tail _ (List.Mem.head _))))) (z_const X rfl (z_add X rfl (z_sld X S hL rfl (show 0 ≤ (i + 4) ∧ (i + 4) < (L : Int) by first | exact sx_in hi (by decide) | omega) ?_))))
  have sr14 : rng (sc xs (i + 4)) := sc_rng
  refine z_aload_n X (x := A 517) rfl (List.Mem.tail _ (List.Mem.tail _ (List.Mem.tail _ (List.Mem.head _)))) (z_callL X (rm := rmN 344) (As := [.ref (A 0), .int (Int32.ofInt (sc xs (i + 1))), .int (Int32.ofInt (sc xs (i + 2))), .int (Int32.ofInt (sc xs (i + 3))), .int (Int32.ofInt (sc xs (i + 4))), .ref (A 517)]) (st := []) rfl (by decide) rfl (by rw [E.1, E.2.1, E.2.2.1]; exact lw_mends G GR I (by omega) (by omega) (by omega) (by omega)) ⟨by rw [E.2.2.2]; exact (show 55 + 1 ≤ 2048 by decide), by rw [E.2.2.2]; exact (show 8 + (7 + 11) + 2372 ≤ 84000 by decide), by rw [E.2.2.2]; exact (show ce + 4 ≤ 601024 by first | exact rmo_1 hce (by decide) | exact rmo_2 hce (by decide) | omega), by rw [E.2.2.2]; exact (show sl + 24 ≤ 7293034 by first | exact rmo_1 hsl (by decide) | exact rmo_2 hsl (by decide) | omega)⟩ (Nat.le_of_ble_eq_true rfl) (fun vv A s15 hA2 hq => ?_) (fun ee A s15 hA2 hq => ?_))
  rotate_left
  · obtain ⟨Is15, Fs15, e16, hv, hrs15, hps15⟩ := hq; cases hv
  obtain ⟨Is15, Fs15, e16, hv, hrs15, hps15⟩ := hq
  cases hv
  rw [← hA2 0 (by decide)]
  rw [← hA2 179 (by decide)]
  rw [← hA2 517 (by decide)]
  have JRLx_s15 : RLx s15 := RLx_fm Fs15 (by decide) jR
  have JFEQ_s15 : FEQ s15 := FEQ_fm Fs15 (by decide) jFEQ
  have JRWJ_s15 : RWJ s15 := RWJ_fm Fs15 (by decide +kernel) jRWJ
  have JFTK_s15 : FTK s15 := FTK_fm Fs15 (by decide) jFTK
  have JARJ_s15 : ARJ s15 := ARJ_fm Fs15 ⟨by decide +kernel, by decide +kernel, by decide +kernel, by decide +kernel, by decide +kernel, by decide +kernel, by decide +kernel, by decide +kernel⟩ jARJ
  have JPTJ_s15 : PTJ s15 := PTJ_fm Fs15 (by decide +kernel) jPTJ
  have ws15_0 : iI s15 0 = iI s 0 := fm_iq Fs15 rfl
  have ws15_74 : iI s15 74 = iI s 74 := fm_iq Fs15 rfl
  have ws15_9 : iI s15 9 = iI s 9 := fm_iq Fs15 rfl
  have ws15_90 : iI s15 90 = iI s 90 := fm_iq Fs15 rfl
  have ws15_20 : iI s15 20 = iI s 20 := fm_iq Fs15 rfl
  have ws15_98 : iI s15 98 = iI s 98 := fm_iq Fs15 rfl
  have ws15_70 : iI s15 70 = iI s 70 := fm_iq Fs15 rfl
  have ws15_107 : iI s15 107 = iI s 107 := fm_iq Fs15 rfl
  have ws15_12 : iI s15 12 = iI s 12 := fm_iq Fs15 rfl
  have ws15_89 : iI s15 89 = iI s 89 := fm_iq Fs15 rfl
  show WS k 1524 [(0, .ref q1), (1, .ref (A 0)), (2, .ref (A 179)), (3, .ref (A 517)), (4, .int (Int32.ofInt i))] [.int (Int32.ofInt e16)] (Wd A dT s15) (ce + 4) (sl + 24)
  refine z_store X (lv' := [(5, .int (Int32.ofInt e16)), (0, .ref q1), (1, .ref (A 0)), (2, .ref (A 179)), (3, .ref (A 517)), (4, .int (Int32.ofInt i))]) rfl (by decide) (fun _ h => h) (z_aload_n X (x := A 179) rfl (List.Mem.tail _ (List.Mem.tail _ (List.Mem.tail _ (List.Mem.head _)))) (z_aload_n X (x := q1) rfl (List.Mem.tail _ (List.Mem.head _)) (z_load X (x := i) rfl (List.Mem.tail _ (List.Mem.tail _ (List.Mem.tail _ (List.Mem.tail _ (List.Mem.tail _ (List.Mem.head _)))))) (z_const X rfl (z_add X rfl (z_sld X S hL rfl (show 0 ≤ (i + 1) ∧ (i + 1) < (L : Int) by first | exact sx_in hi (by decide) | omega) ?_))))))
  have sr17 : rng (sc xs (i + 1)) := sc_rng
  refine z_aload_n X (x := q1) rfl (List.Mem.tail _ (List.Mem.head _)) (z_load X (x := i) rfl (List.Mem.tail _ (List.Mem.tail _ (List.Mem.tail _ (List.Mem.tail _ (List.Mem.tail _ (List.Mem.head _)))))) (z_const X rfl (z_add X rfl (z_sld X S hL rfl (show 0 ≤ (i + 2) ∧ (i + 2) < (L : Int) by first | exact sx_in hi (by decide) | omega) ?_))))
  have sr18 : rng (sc xs (i + 2)) := sc_rng
  refine z_aload_n X (x := q1) rfl (List.Mem.tail _ (List.Mem.head _)) (z_load X (x := i) rfl (List.Mem.tail _ (List.Mem.tail _ (List.Mem.tail _ (List.Mem.tail _ (List.Mem.tail _ (List.Mem.head _)))))) (z_const X rfl (z_add X rfl (z_sld X S hL rfl (show 0 ≤ (i + 3) ∧ (i + 3) < (L : Int) by first | exact sx_in hi (by decide) | omega) ?_))))
  have sr19 : rng (sc xs (i + 3)) := sc_rng
  refine z_aload_n X (x := q1) rfl (List.Mem.tail _ (List.Mem.head _)) (z_load X (x := i) rfl (List.Mem.tail _ (List.Mem.tail _ (List.Mem.tail _ (List.Mem.tail _ (List.Mem.tail _ (List.Mem.head _)))))) (z_const X rfl (z_add X rfl (z_sld X S hL rfl (show 0 ≤ (i + 4) ∧ (i + 4) < (L : Int) by first | exact sx_in hi (by decide) | omega) ?_))))
  have sr20 : rng (sc xs (i + 4)) := sc_rng
  refine z_callV X 179 (rm := rmN 286) (As := [.int (Int32.ofInt (sc xs (i + 1))), .int (Int32.ofInt (sc xs (i + 2))), .int (Int32.ofInt (sc xs (i + 3))), .int (Int32.ofInt (sc xs (i + 4)))]) (st := []) rfl rfl (by decide) rfl (by rw [E.1, E.2.1, E.2.2.1]; exact k_mends G Is15 JRLx_s15 (by first | exact ⟨sr17.1, sr17.2⟩ | omega) (by first | exact ⟨sr18.1, sr18.2⟩ | omega) (by first | exact ⟨sr19.1, sr19.2⟩ | omega) (by first | exact ⟨sr20.1, sr20.2⟩ | omega)) ⟨by rw [E.2.2.2]; exact (show 73 + 1 ≤ 2048 from oq_c67cc45d), by rw [E.2.2.2]; exact (show 8 + (7 + 11) + 3227 ≤ 84000 from oq_f40e0be7), by rw [E.2.2.2]; exact (show (ce + 4) + 0 ≤ 601024 by omega), by rw [E.2.2.2]; exact (show (sl + 24) + 0 ≤ 7293034 by omega)⟩ (Nat.le_of_ble_eq_true rfl) (fun vv s21 hq => ?_) (fun ee s21 hq => ?_)
  rotate_left
  · obtain ⟨Is21, Fs21, JRLx_s21, e22, hv, hrs21, hps21⟩ := hq; cases hv
  obtain ⟨Is21, Fs21, JRLx_s21, e22, hv, hrs21, hps21⟩ := hq
  cases hv
  have JRLx_s21 : RLx s21 := RLx_fm Fs21 (by decide) JRLx_s15
  have JFEQ_s21 : FEQ s21 := FEQ_fm Fs21 (by decide) JFEQ_s15
  have JRWJ_s21 : RWJ s21 := RWJ_fm Fs21 (by decide +kernel) JRWJ_s15
  have JFTK_s21 : FTK s21 := FTK_fm Fs21 (by decide) JFTK_s15
  have JARJ_s21 : ARJ s21 := ARJ_fm Fs21 ⟨by decide +kernel, by decide +kernel, by decide +kernel, by decide +kernel, by decide +kernel, by decide +kernel, by decide +kernel, by decide +kernel⟩ JARJ_s15
  have JPTJ_s21 : PTJ s21 := PTJ_fm Fs21 (by decide +kernel) JPTJ_s15
  have ws21_0 : iI s21 0 = iI s15 0 := fm_iq Fs21 rfl
  have ws21_74 : iI s21 74 = iI s15 74 := fm_iq Fs21 rfl
  have ws21_9 : iI s21 9 = iI s15 9 := fm_iq Fs21 rfl
  have ws21_90 : iI s21 90 = iI s15 90 := fm_iq Fs21 rfl
  have ws21_20 : iI s21 20 = iI s15 20 := fm_iq Fs21 rfl
  have ws21_98 : iI s21 98 = iI s15 98 := fm_iq Fs21 rfl
  have ws21_70 : iI s21 70 = iI s15 70 := fm_iq Fs21 rfl
  have ws21_107 : iI s21 107 = iI s15 107 := fm_iq Fs21 rfl
  have ws21_12 : iI s21 12 = iI s15 12 := fm_iq Fs21 rfl
  have ws21_89 : iI s21 89 = iI s15 89 := fm_iq Fs21 rfl
  have wos21 : iO s21 = iO s15 := fm_o Fs21 (by decide)
  show WS k 1554 [(5, .int (Int32.ofInt e16)), (0, .ref q1), (1, .ref (A 0)), (2, .ref (A 179)), (3, .ref (A 517)), (4, .int (Int32.ofInt i))] [.int (Int32.ofInt e22)] (Wd A dT s21) (ce + 4) (sl + 24)
  refine z_store X (lv' := [(6, .int (Int32.ofInt e22)), (5, .int (Int32.ofInt e16)), (0, .ref q1), (1, .ref (A 0)), (2, .ref (A 179)), (3, .ref (A 517)), (4, .int (Int32.ofInt i))]) rfl (by decide) (fun _ h => h) (z_goto X (t := 1894) rfl rfl (w_widen (ce' := ce + 29) (sl' := sl + 222) (by first | exact Nat.le_add_right _ _ | exact Nat.add_le_add_left (by decide) _ | omega) (by first | exact Nat.le_add_right _ _ | exact Nat.add_le_add_left (by decide) _ | omega) ?_))
  exact WS_lv (lv := [(0, .ref q1), (1, .ref (A 0)), (2, .ref (A 179)), (3, .ref (A 517)), (4, .int (Int32.ofInt i))]) (List.forall_mem_cons.mpr ⟨(List.Mem.tail _ (List.Mem.tail _ (List.Mem.head _))), (List.forall_mem_cons.mpr ⟨(List.Mem.tail _ (List.Mem.tail _ (List.Mem.tail _ (List.Mem.head _)))), (List.forall_mem_cons.mpr ⟨(List.Mem.tail _ (List.Mem.tail _ (List.Mem.tail _ (List.Mem.tail _ (List.Mem.head _))))), (List.forall_mem_cons.mpr ⟨(List.Mem.tail _ (List.Mem.tail _ (List.Mem.tail _ (List.Mem.tail _ (List.Mem.tail _ (List.Mem.head _)))))), (List.forall_mem_cons.mpr ⟨(List.Mem.tail _ (List.Mem.tail _ (List.Mem.tail _ (List.Mem.tail _ (List.Mem.tail _ (List.Mem.tail _ (List.Mem.head _))))))), (fun q h => absurd h List.not_mem_nil)⟩)⟩)⟩)⟩)⟩) (hk A _ Is21 JRLx_s21 JFEQ_s21 JRWJ_s21 JFTK_s21 JARJ_s21 JPTJ_s21 (by first | exact oq_f34933ba ws21_89 ws15_89 p1 b10.1 | omega) (by first | exact oq_d7ce4408 ws21_12 ws15_12 p2 | omega) (by first | exact oq_5bcdc35f ws21_74 ws21_0 ws15_74 ws15_0 p3 | omega) (by first | exact oq_5bcdc35f ws21_90 ws21_9 ws15_90 ws15_9 p4 | omega) (by first | exact oq_5bcdc35f ws21_98 ws21_20 ws15_98 ws15_20 p5 | omega) (by first | exact oq_5bcdc35f ws21_107 ws21_70 ws15_107 ws15_70 p6 | omega))
theorem lc_36 (G : GX l s0 D tys a0 dT) (GR : RS0 s0) (SF : SF0 s0) (GT : TXs0 s0) (GW : TXw0 s0) {k : kx_T} (X : AX k 350 dT) (E : kL k = l ∧ kS0 k = s0 ∧ kD k = D ∧ kR k = room_1) {q1 L : Nat} {xs : Nat → Int32} (S : SX k q1 L xs) (hL : L ≤ 3072) (I : Bd s) (jR : RLx s) (jFEQ : FEQ s) (jRWJ : RWJ s) (jFTK : FTK s) (jARJ : ARJ s) (jPTJ : PTJ s) (p1 : iI s 89 = 1) (p2 : iI s 12 ≤ 8) (p3 : iI s 0 = iI s 74) (p4 : iI s 9 = iI s 90) (p5 : iI s 20 = iI s 98) (p6 : iI s 70 = iI s 107) {i : Int} (hi : 0 ≤ i ∧ i + 6 ≤ (L : Int)) {ce sl : Nat} (hce : ce + 29 ≤ 601024) (hsl : sl + 222 ≤ 7293034) (hk : ∀ (A : Nat → Nat) (t : PS), Bd t → RLx t → FEQ t → RWJ t → FTK t → ARJ t → PTJ t → iI t 89 = 1 → iI t 12 ≤ 8 → iI t 0 = iI t 74 → iI t 9 = iI t 90 → iI t 20 = iI t 98 → iI t 70 = iI t 107 → WS k 1894 [(0, .ref q1), (1, .ref (A 0)), (2, .ref (A 179)), (3, .ref (A 517)), (4, .int (Int32.ofInt i))] [] (Wd A dT t) (ce + 29) (sl + 222)) : WS k 1559 [(0, .ref q1), (1, .ref (A 0)), (2, .ref (A 179)), (3, .ref (A 517)), (4, .int (Int32.ofInt i))] [] (Wd A dT s) ce sl := by
  have F : Fm [22, 23, 70, 73, 107, 77, 75, 78, 79, 80, 81] [33, 26, 27, 28, 29, 30, 31, 32, 152, 153, 154, 1460, 161, 202, 203, 204, 205, 206, 207, 208, 209, 210, 211, 212, 213, 214, 215, 216, 217, 218, 219, 220, 221, 222, 223, 224, 225, 226, 227, 230, 417, 418, 419, 420, 421, 422, 423, 424, 425, 426, 427, 428, 429, 430, 431, 432, 433, 434, 435, 436, 437, 438, 439, 440, 441, 442, 443, 444, 445, 446, 447, 448, 449, 450, 451, 452, 453, 454, 455, 456, 457, 459] s s := fm_rf _ _ s
  have b1 := bi_0 I
  have b2 := bi_74 I
  have b3 := bi_9 I
  have b4 := bi_90 I
  have b5 := bi_20 I
  have b6 := bi_98 I
  have b7 := bi_70 I
  have b8 := bi_107 I
  have b9 := bi_12 I
  have b10 := bi_89 I
  refine z_aload_n X (x := A 0) rfl (List.Mem.tail _ (List.Mem.head _)) (z_aload_n X (x := q1) rfl (List.Mem.head _) (z_load X (x := i) rfl (List.Mem.tail _ (List.Mem.tail _ (List.Mem.tail _ (List.Mem.tail _ (List.Mem.head _))))) (z_const X rfl (z_add X rfl (z_sld X S hL rfl (show 0 ≤ (i + 1) ∧ (i + 1) < (L : Int) by first | exact sx_in hi (by decide) | omega) ?_)))))
  have sr11 : rng (sc xs (i + 1)) := sc_rng
  refine z_aload_n X (x := q1) rfl (List.Mem.head _) (z_load X (x := i) rfl (List.Mem.tail _ (List.Mem.tail _ (List.Mem.tail _ (List.Mem.tail _ (List.Mem.head _))))) (z_const X rfl (z_add X rfl (z_sld X S hL rfl (show 0 ≤ (i + 2) ∧ (i + 2) < (L : Int) by first | exact sx_in hi (by decide) | omega) ?_))))
  have sr12 : rng (sc xs (i + 2)) := sc_rng
  refine z_aload_n X (x := q1) rfl (List.Mem.head _) (z_load X (x := i) rfl (List.Mem.tail _ (List.Mem.tail _ (List.Mem.tail _ (List.Mem.tail _ (List.Mem.head _))))) (z_const X rfl (z_add X rfl (z_sld X S hL rfl (show 0 ≤ (i + 3) ∧ (i + 3) < (L : Int) by first | exact sx_in hi (by decide) | omega) ?_))))
  have sr13 : rng (sc xs (i + 3)) := sc_rng
  refine z_aload_n X (x := q1) rfl (List.Mem.head _) (z_load X (x := i) rfl (List.Mem.tail _ (List.Mem.tail _ (List.Mem.tail _ (List.Mem.tail _ (List.Mem.head _))))) (z_const X rfl (z_add X rfl (z_sld X S hL rfl (show 0 ≤ (i + 4) ∧ (i + 4) < (L : Int) by first | exact sx_in hi (by decide) | omega) ?_))))
  have sr14 : rng (sc xs (i + 4)) := sc_rng
  have N15 : ∀ e16 : Int, ((((sc xs (i + 4)) = 0) ∧ e16 = 0) ∨ (((sc xs (i + 4)) ≠ 0) ∧ e16 = 1)) → WS k 1592 [(0, .ref q1), (1, .ref (A 0)), (2, .ref (A 179)), (3, .ref (A 517)), (4, .int (Int32.ofInt i))] [.int (Int32.ofInt e16), .int (Int32.ofInt (sc xs (i + 3))), .int (Int32.ofInt (sc xs (i + 2))), .int (Int32.ofInt (sc xs (i + 1))), .ref (A 0)] (Wd A dT s) ce sl := by
    intro e16 he16
    have re16 : 0 ≤ e16 ∧ e16 ≤ 1 := by first | (clear he16; omega) | omega
    refine z_aload_n X (x := A 517) rfl (List.Mem.tail _ (List.Mem.tail _ (List.Mem.tail _ (List.Mem.head _)))) ?_
    obtain ⟨U, hU1, hU2, hU3⟩ := air_U jARJ.2.2.2.2.2.1 jARJ.1 jARJ.2.1 jARJ.2.2.1 jARJ.2.2.2.2.1 jARJ.2.2.2.2.2.2.2 (by first | (clear he16; omega) | omega) (by first | (clear he16; omega) | omega)
    refine z_callL X (rm := rmN 345) (As := [.ref (A 0), .int (Int32.ofInt (sc xs (i + 1))), .int (Int32.ofInt (sc xs (i + 2))), .int (Int32.ofInt (sc xs (i + 3))), .int (Int32.ofInt e16), .ref (A 517)]) (st := []) rfl (by decide) rfl (by rw [E.1, E.2.1, E.2.2.1]; exact lw_did6 G I jARJ.2.2.2.2.2.1 jARJ.2.2.2.2.2.2.1 hU1 jPTJ.1 (by first | (clear he16; omega) | omega) (by first | (clear he16; omega) | omega) (by first | (clear he16; omega) | omega) (by first | (clear he16; omega) | omega)) ⟨by rw [E.2.2.2]; exact (show 11 + 1 ≤ 2048 by decide), by rw [E.2.2.2]; exact (show 8 + (7 + 11) + 229 ≤ 84000 by decide), by rw [E.2.2.2]; exact (show ce + 3 ≤ 601024 by first | exact rmo_1 hce (by decide) | exact rmo_2 hce (by decide) | omega), by rw [E.2.2.2]; exact (show sl + 18 ≤ 7293034 by first | exact rmo_1 hsl (by decide) | exact rmo_2 hsl (by decide) | omega)⟩ (Nat.le_of_ble_eq_true rfl) (fun vv A s17 hA2 hq => ?_) (fun ee A s17 hA2 hq => ?_)
    rotate_left
    · obtain ⟨Is17, Fs17, e18, hv, hrs17, hps17⟩ := hq; cases hv
    obtain ⟨Is17, Fs17, e18, hv, hrs17, hps17⟩ := hq
    cases hv
    rw [← hA2 0 (by decide)]
    rw [← hA2 179 (by decide)]
    rw [← hA2 517 (by decide)]
    have JRLx_s17 : RLx s17 := RLx_fm Fs17 (by decide) jR
    have JFEQ_s17 : FEQ s17 := FEQ_fm Fs17 (by decide) jFEQ
    have JARJ_s17 : ARJ s17 := ARJ_fm Fs17 ⟨by decide +kernel, by decide +kernel, by decide +kernel, by decide +kernel, by decide +kernel, by decide +kernel, by decide +kernel, by decide +kernel⟩ jARJ
    have JPTJ_s17 : PTJ s17 := PTJ_fm Fs17 (by decide +kernel) jPTJ
    have JMDJ_s17 : MDJ U s17 := MDJ_fm Fs17 (by decide +kernel) hU2
    have ws17_0 : iI s17 0 = iI s 0 := fm_iq Fs17 rfl
    have ws17_74 : iI s17 74 = iI s 74 := fm_iq Fs17 rfl
    have ws17_9 : iI s17 9 = iI s 9 := fm_iq Fs17 rfl
    have ws17_90 : iI s17 90 = iI s 90 := fm_iq Fs17 rfl
    have ws17_20 : iI s17 20 = iI s 20 := fm_iq Fs17 rfl
    have ws17_98 : iI s17 98 = iI s 98 := fm_iq Fs17 rfl
    have b19 := bi_70 Is17
    have ws17_107 : iI s17 107 = iI s 107 := fm_iq Fs17 rfl
    have ws17_12 : iI s17 12 = iI s 12 := fm_iq Fs17 rfl
    have ws17_89 : iI s17 89 = iI s 89 := fm_iq Fs17 rfl
    show WS k 1596 [(0, .ref q1), (1, .ref (A 0)), (2, .ref (A 179)), (3, .ref (A 517)), (4, .int (Int32.ofInt i))] [.int (Int32.ofInt e18)] (Wd A dT s17) (ce + 3) (sl + 18)
    refine z_store X (lv' := [(5, .int (Int32.ofInt e18)), (0, .ref q1), (1, .ref (A 0)), (2, .ref (A 179)), (3, .ref (A 517)), (4, .int (Int32.ofInt i))]) rfl (by decide) (fun _ h => h) (z_aload_n X (x := A 179) rfl (List.Mem.tail _ (List.Mem.tail _ (List.Mem.tail _ (List.Mem.head _)))) (z_aload_n X (x := q1) rfl (List.Mem.tail _ (List.Mem.head _)) (z_load X (x := i) rfl (List.Mem.tail _ (List.Mem.tail _ (List.Mem.tail _ (List.Mem.tail _ (List.Mem.tail _ (List.Mem.head _)))))) (z_const X rfl (z_add X rfl (z_sld X S hL rfl (show 0 ≤ (i + 1) ∧ (i + 1) < (L : Int) by first | exact sx_in hi (by decide) | omega) ?_))))))
    have sr20 : rng (sc xs (i + 1)) := sc_rng
    refine z_aload_n X (x := q1) rfl (List.Mem.tail _ (List.Mem.head _)) (z_load X (x := i) rfl (List.Mem.tail _ (List.Mem.tail _ (List.Mem.tail _ (List.Mem.tail _ (List.Mem.tail _ (List.Mem.head _)))))) (z_const X rfl (z_add X rfl (z_sld X S hL rfl (show 0 ≤ (i + 2) ∧ (i + 2) < (L : Int) by first | exact sx_in hi (by decide) | omega) ?_))))
    have sr21 : rng (sc xs (i + 2)) := sc_rng
    refine z_aload_n X (x := q1) rfl (List.Mem.tail _ (List.Mem.head _)) (z_load X (x := i) rfl (List.Mem.tail _ (List.Mem.tail _ (List.Mem.tail _ (List.Mem.tail _ (List.Mem.tail _ (List.Mem.head _)))))) (z_const X rfl (z_add X rfl (z_sld X S hL rfl (show 0 ≤ (i + 3) ∧ (i + 3) < (L : Int) by first | exact sx_in hi (by decide) | omega) ?_))))
    have sr22 : rng (sc xs (i + 3)) := sc_rng
    refine z_aload_n X (x := q1) rfl (List.Mem.tail _ (List.Mem.head _)) (z_load X (x := i) rfl (List.Mem.tail _ (List.Mem.tail _ (List.Mem.tail _ (List.Mem.tail _ (List.Mem.tail _ (List.Mem.head _)))))) (z_const X rfl (z_add X rfl (z_sld X S hL rfl (show 0 ≤ (i + 4) ∧ (i + 4) < (L : Int) by first | exact sx_in hi (by decide) | omega) ?_))))
    have sr23 : rng (sc xs (i + 4)) := sc_rng
    refine z_if_eq X (t := 1630) rfl rfl ⟨by first | exact sr23.1 | omega, by first | exact sr23.2 | omega⟩ (fun g24 => ?_) (fun g24 => ?_)
    ·
      refine z_const X rfl (z_callV X 179 (rm := rmN 287) (As := [.int (Int32.ofInt (sc xs (i + 1))), .int (Int32.ofInt (sc xs (i + 2))), .int (Int32.ofInt (sc xs (i + 3))), .int (Int32.ofInt 0)]) (st := []) rfl rfl (by decide) rfl (by rw [E.1, E.2.1, E.2.2.1]; exact k_did6 G Is17 JRLx_s17 JMDJ_s17 (by first | exact ⟨sr20.1, sr20.2⟩ | omega) (by first | exact ⟨sr21.1, sr21.2⟩ | omega) (by first | exact ⟨sr22.1, sr22.2⟩ | omega) (by first | exact Or.inl (by decide) | omega) (by first | exact oq_b44a1c7f ws17_89 p1 b10.1 | omega)) ⟨by rw [E.2.2.2]; exact (show 10 + 1 ≤ 2048 from oq_5655e407), by rw [E.2.2.2]; exact (show 8 + (6 + 11) + 189 ≤ 84000 from oq_f8649f31), by rw [E.2.2.2]; exact (show (ce + 3) + 0 ≤ 601024 by first | (clear hps17 he16; omega) | (clear he16; omega) | omega), by rw [E.2.2.2]; exact (show (sl + 18) + 0 ≤ 7293034 by first | (clear hps17 he16; omega) | (clear he16; omega) | omega)⟩ (Nat.le_of_ble_eq_true rfl) (fun vv s25 hq => ?_) (fun ee s25 hq => ?_))
      rotate_left
      · obtain ⟨Is25, Fs25, JRLx_s25, e26, hv, hrs25, hps25⟩ := hq; cases hv
      obtain ⟨Is25, Fs25, JRLx_s25, e26, hv, hrs25, hps25⟩ := hq
      cases hv
      have JRLx_s25 : RLx s25 := RLx_fm Fs25 (by decide) JRLx_s17
      have JFEQ_s25 : FEQ s25 := FEQ_fm Fs25 (by decide) JFEQ_s17
      have JARJ_s25 : ARJ s25 := ARJ_fm Fs25 ⟨by decide +kernel, by decide +kernel, by decide +kernel, by decide +kernel, by decide +kernel, by decide +kernel, by decide +kernel, by decide +kernel⟩ JARJ_s17
      have JPTJ_s25 : PTJ s25 := PTJ_fm Fs25 (by decide +kernel) JPTJ_s17
      have ws25_0 : iI s25 0 = iI s17 0 := fm_iq Fs25 rfl
      have ws25_74 : iI s25 74 = iI s17 74 := fm_iq Fs25 rfl
      have ws25_9 : iI s25 9 = iI s17 9 := fm_iq Fs25 rfl
      have ws25_90 : iI s25 90 = iI s17 90 := fm_iq Fs25 rfl
      have ws25_20 : iI s25 20 = iI s17 20 := fm_iq Fs25 rfl
      have ws25_98 : iI s25 98 = iI s17 98 := fm_iq Fs25 rfl
      have ws25_70 : iI s25 70 = iI s17 70 := fm_iq Fs25 rfl
      have b27 := bi_107 Is25
      have ws25_12 : iI s25 12 = iI s17 12 := fm_iq Fs25 rfl
      have ws25_89 : iI s25 89 = iI s17 89 := fm_iq Fs25 rfl
      have wos25 : iO s25 = iO s17 := fm_o Fs25 (by decide)
      show WS k 1634 [(5, .int (Int32.ofInt e18)), (0, .ref q1), (1, .ref (A 0)), (2, .ref (A 179)), (3, .ref (A 517)), (4, .int (Int32.ofInt i))] [.int (Int32.ofInt e26)] (Wd A dT s25) (ce + 3) (sl + 18)
      rcases hps17 with cc | cc | cc
      ·
        rcases hps25 with mm | mm | mm
        ·
          have hC9 : SRW (iI s 70).toNat (cD s) (cBk s) (cHd s) (cD s25) (cBk s25) (cHd s25) := srw_le (srw_t cc.2.2.2.2.2.2.2.2.2.2 (srw_c (sam_fm Fs25 (by decide +kernel)) (sam_fm Fs25 (by decide +kernel)) (sam_fm Fs25 (by decide +kernel)))) (by first | (clear hps25 hps17 he16; omega) | (clear hps17 he16; omega) | omega)
          have hM9 : SRW (iI s 70).toNat (mD s) (mBk s) (mHd s) (mD s25) (mBk s25) (mHd s25) := srw_le (srw_t (srw_m (sam_fm Fs17 (by decide +kernel)) (sam_fm Fs17 (by decide +kernel)) (hr_fm Fs17 (by decide +kernel)) (by first | (clear hps25 hps17 he16; omega) | (clear hps17 he16; omega) | omega)) mm.2.2.2.2.2) (by first | (clear hps25 hps17 he16; omega) | (clear hps17 he16; omega) | omega)
          have hR9 : RWJ s25 := rwj_s jRWJ (by first | (clear hps25 hps17 he16; omega) | (clear hps17 he16; omega) | omega) hC9 hM9
          have hF9 : FTK s25 := ftk_s jFTK ((fm_i Fs25 (by decide +kernel)).trans (fm_i Fs17 (by decide +kernel))) (by first | (clear hps25 hps17 he16; omega) | (clear hps17 he16; omega) | omega) ((fm_i Fs25 (by decide +kernel)).trans (fm_i Fs17 (by decide +kernel))) hC9 (sam_ts (sam_fm Fs17 (by decide +kernel)) (sam_fm Fs25 (by decide +kernel)))
          refine z_store X (lv' := [(6, .int (Int32.ofInt e26)), (5, .int (Int32.ofInt e18)), (0, .ref q1), (1, .ref (A 0)), (2, .ref (A 179)), (3, .ref (A 517)), (4, .int (Int32.ofInt i))]) rfl (by decide) (fun _ h => h) (z_goto X (t := 1894) rfl rfl (w_widen (ce' := ce + 29) (sl' := sl + 222) (by first | exact Nat.le_add_right _ _ | exact Nat.add_le_add_left (by decide) _ | omega) (by first | exact Nat.le_add_right _ _ | exact Nat.add_le_add_left (by decide) _ | omega) ?_))
          exact WS_lv (lv := [(0, .ref q1), (1, .ref (A 0)), (2, .ref (A 179)), (3, .ref (A 517)), (4, .int (Int32.ofInt i))]) (List.forall_mem_cons.mpr ⟨(List.Mem.tail _ (List.Mem.tail _ (List.Mem.head _))), (List.forall_mem_cons.mpr ⟨(List.Mem.tail _ (List.Mem.tail _ (List.Mem.tail _ (List.Mem.head _)))), (List.forall_mem_cons.mpr ⟨(List.Mem.tail _ (List.Mem.tail _ (List.Mem.tail _ (List.Mem.tail _ (List.Mem.head _))))), (List.forall_mem_cons.mpr ⟨(List.Mem.tail _ (List.Mem.tail _ (List.Mem.tail _ (List.Mem.tail _ (List.Mem.tail _ (List.Mem.head _)))))), (List.forall_mem_cons.mpr ⟨(List.Mem.tail _ (List.Mem.tail _ (List.Mem.tail _ (List.Mem.tail _ (List.Mem.tail _ (List.Mem.tail _ (List.Mem.head _))))))), (fun q h => absurd h List.not_mem_nil)⟩)⟩)⟩)⟩)⟩) (hk A _ Is25 JRLx_s25 JFEQ_s25 hR9 hF9 JARJ_s25 JPTJ_s25 (by first | exact oq_f34933ba ws25_89 ws17_89 p1 b10.1 | omega) (by first | exact oq_d7ce4408 ws25_12 ws17_12 p2 | omega) (by first | exact oq_5bcdc35f ws25_74 ws25_0 ws17_74 ws17_0 p3 | omega) (by first | exact oq_5bcdc35f ws25_90 ws25_9 ws17_90 ws17_9 p4 | omega) (by first | exact oq_5bcdc35f ws25_98 ws25_20 ws17_98 ws17_20 p5 | omega) (by first | (clear hps25 hps17 he16; omega) | (clear hps17 he16; omega) | omega))
        ·
          exfalso
          omega
        ·
          exfalso
          omega
      ·
        rcases hps25 with mm | mm | mm
        ·
          exfalso
          omega
        ·
          have hC9 := rwa_u cc.2.2.2.2.2.2.2.2.2.2 (srw_c (sam_fm Fs25 (by decide +kernel)) (sam_fm Fs25 (by decide +kernel)) (sam_fm Fs25 (by decide +kernel)))
          have hM9 := mm.2.2.2.2.2
          rw [show iI s17 107 = iI s 70 by first | (clear hps25 hps17 he16; omega) | (clear hps17 he16; omega) | omega] at hM9
          have hR9 : RWJ s25 := rwj_up (by rw [pcs_c (fun j hj => (jPTJ.2.1 j hj).trans ((sam_fm Fs17 (by decide +kernel) : SAM 228 _ _) j).symm) _]) jRWJ (by first | (clear hps25 hps17 he16; omega) | (clear hps17 he16; omega) | omega) (by first | (clear hps25 hps17 he16; omega) | (clear hps17 he16; omega) | omega) hC9 (rwa_t (srw_m (sam_fm Fs17 (by decide +kernel)) (sam_fm Fs17 (by decide +kernel)) (hr_fm Fs17 (by decide +kernel)) (by first | (clear hps25 hps17 he16; omega) | (clear hps17 he16; omega) | omega)) (rwa_w hM9 (by first | (clear hps25 hps17 he16; omega) | (clear hps17 he16; omega) | omega)))
          have hF9 : FTK s25 := ftk_up jFTK (by first | (clear hps25 hps17 he16; omega) | (clear hps17 he16; omega) | omega) (by first | (clear hps25 hps17 he16; omega) | (clear hps17 he16; omega) | omega) (by first | (clear hps25 hps17 he16; omega) | (clear hps17 he16; omega) | omega) ((fm_i Fs25 (by decide +kernel)).trans (fm_i Fs17 (by decide +kernel))) hC9
          refine z_store X (lv' := [(6, .int (Int32.ofInt e26)), (5, .int (Int32.ofInt e18)), (0, .ref q1), (1, .ref (A 0)), (2, .ref (A 179)), (3, .ref (A 517)), (4, .int (Int32.ofInt i))]) rfl (by decide) (fun _ h => h) (z_goto X (t := 1894) rfl rfl (w_widen (ce' := ce + 29) (sl' := sl + 222) (by first | exact Nat.le_add_right _ _ | exact Nat.add_le_add_left (by decide) _ | omega) (by first | exact Nat.le_add_right _ _ | exact Nat.add_le_add_left (by decide) _ | omega) ?_))
          exact WS_lv (lv := [(0, .ref q1), (1, .ref (A 0)), (2, .ref (A 179)), (3, .ref (A 517)), (4, .int (Int32.ofInt i))]) (List.forall_mem_cons.mpr ⟨(List.Mem.tail _ (List.Mem.tail _ (List.Mem.head _))), (List.forall_mem_cons.mpr ⟨(List.Mem.tail _ (List.Mem.tail _ (List.Mem.tail _ (List.Mem.head _)))), (List.forall_mem_cons.mpr ⟨(List.Mem.tail _ (List.Mem.tail _ (List.Mem.tail _ (List.Mem.tail _ (List.Mem.head _))))), (List.forall_mem_cons.mpr ⟨(List.Mem.tail _ (List.Mem.tail _ (List.Mem.tail _ (List.Mem.tail _ (List.Mem.tail _ (List.Mem.head _)))))), (List.forall_mem_cons.mpr ⟨(List.Mem.tail _ (List.Mem.tail _ (List.Mem.tail _ (List.Mem.tail _ (List.Mem.tail _ (List.Mem.tail _ (List.Mem.head _))))))), (fun q h => absurd h List.not_mem_nil)⟩)⟩)⟩)⟩)⟩) (hk A _ Is25 JRLx_s25 JFEQ_s25 hR9 hF9 JARJ_s25 JPTJ_s25 (by first | exact oq_f34933ba ws25_89 ws17_89 p1 b10.1 | omega) (by first | exact oq_d7ce4408 ws25_12 ws17_12 p2 | omega) (by first | exact oq_5bcdc35f ws25_74 ws25_0 ws17_74 ws17_0 p3 | omega) (by first | exact oq_5bcdc35f ws25_90 ws25_9 ws17_90 ws17_9 p4 | omega) (by first | exact oq_5bcdc35f ws25_98 ws25_20 ws17_98 ws17_20 p5 | omega) (by first | (clear hps25 hps17 he16; omega) | (clear hps17 he16; omega) | omega))
        ·
          exfalso
          omega
      ·
        rcases hps25 with mm | mm | mm
        ·
          exfalso
          omega
        ·
          exfalso
          omega
        ·
          have hC9 : SRW (iI s 70).toNat (cD s) (cBk s) (cHd s) (cD s25) (cBk s25) (cHd s25) := srw_le (srw_t cc.2.2.2 (srw_c (sam_fm Fs25 (by decide +kernel)) (sam_fm Fs25 (by decide +kernel)) (sam_fm Fs25 (by decide +kernel)))) (by first | (clear hps25 hps17 he16; omega) | (clear hps17 he16; omega) | omega)
          have hM9 : SRW (iI s 70).toNat (mD s) (mBk s) (mHd s) (mD s25) (mBk s25) (mHd s25) := srw_le (srw_t (srw_m (sam_fm Fs17 (by decide +kernel)) (sam_fm Fs17 (by decide +kernel)) (hr_fm Fs17 (by decide +kernel)) (by first | (clear hps25 hps17 he16; omega) | (clear hps17 he16; omega) | omega)) mm.2.2.2) (by first | (clear hps25 hps17 he16; omega) | (clear hps17 he16; omega) | omega)
          have hR9 : RWJ s25 := rwj_s jRWJ (by first | (clear hps25 hps17 he16; omega) | (clear hps17 he16; omega) | omega) hC9 hM9
          have hF9 : FTK s25 := ftk_s jFTK ((fm_i Fs25 (by decide +kernel)).trans (fm_i Fs17 (by decide +kernel))) (by first | (clear hps25 hps17 he16; omega) | (clear hps17 he16; omega) | omega) ((fm_i Fs25 (by decide +kernel)).trans (fm_i Fs17 (by decide +kernel))) hC9 (sam_ts (sam_fm Fs17 (by decide +kernel)) (sam_fm Fs25 (by decide +kernel)))
          refine z_store X (lv' := [(6, .int (Int32.ofInt e26)), (5, .int (Int32.ofInt e18)), (0, .ref q1), (1, .ref (A 0)), (2, .ref (A 179)), (3, .ref (A 517)), (4, .int (Int32.ofInt i))]) rfl (by decide) (fun _ h => h) (z_goto X (t := 1894) rfl rfl (w_widen (ce' := ce + 29) (sl' := sl + 222) (by first | exact Nat.le_add_right _ _ | exact Nat.add_le_add_left (by decide) _ | omega) (by first | exact Nat.le_add_right _ _ | exact Nat.add_le_add_left (by decide) _ | omega) ?_))
          exact WS_lv (lv := [(0, .ref q1), (1, .ref (A 0)), (2, .ref (A 179)), (3, .ref (A 517)), (4, .int (Int32.ofInt i))]) (List.forall_mem_cons.mpr ⟨(List.Mem.tail _ (List.Mem.tail _ (List.Mem.head _))), (List.forall_mem_cons.mpr ⟨(List.Mem.tail _ (List.Mem.tail _ (List.Mem.tail _ (List.Mem.head _)))), (List.forall_mem_cons.mpr ⟨(List.Mem.tail _ (List.Mem.tail _ (List.Mem.tail _ (List.Mem.tail _ (List.Mem.head _))))), (List.forall_mem_cons.mpr ⟨(List.Mem.tail _ (List.Mem.tail _ (List.Mem.tail _ (List.Mem.tail _ (List.Mem.tail _ (List.Mem.head _)))))), (List.forall_mem_cons.mpr ⟨(List.Mem.tail _ (List.Mem.tail _ (List.Mem.tail _ (List.Mem.tail _ (List.Mem.tail _ (List.Mem.tail _ (List.Mem.head _))))))), (fun q h => absurd h List.not_mem_nil)⟩)⟩)⟩)⟩)⟩) (hk A _ Is25 JRLx_s25 JFEQ_s25 hR9 hF9 JARJ_s25 JPTJ_s25 (by first | exact oq_f34933ba ws25_89 ws17_89 p1 b10.1 | omega) (by first | exact oq_d7ce4408 ws25_12 ws17_12 p2 | omega) (by first | exact oq_5bcdc35f ws25_74 ws25_0 ws17_74 ws17_0 p3 | omega) (by first | exact oq_5bcdc35f ws25_90 ws25_9 ws17_90 ws17_9 p4 | omega) (by first | exact oq_5bcdc35f ws25_98 ws25_20 ws17_98 ws17_20 p5 | omega) (by first | (clear hps25 hps17 he16; omega) | (clear hps17 he16; omega) | omega))
    ·
      refine z_const X rfl (z_goto X (t := 1631) rfl rfl (z_callV X 179 (rm := rmN 287) (As := [.int (Int32.ofInt (sc xs (i + 1))), .int (Int32.ofInt (sc xs (i + 2))), .int (Int32.ofInt (sc xs (i + 3))), .int (Int32.ofInt 1)]) (st := []) rfl rfl (by decide) rfl (by rw [E.1, E.2.1, E.2.2.1]; exact k_did6 G Is17 JRLx_s17 JMDJ_s17 (by first | exact ⟨sr20.1, sr20.2⟩ | omega) (by first | exact ⟨sr21.1, sr21.2⟩ | omega) (by first | exact ⟨sr22.1, sr22.2⟩ | omega) (by first | exact Or.inr (by decide) | omega) (by first | exact oq_b44a1c7f ws17_89 p1 b10.1 | omega)) ⟨by rw [E.2.2.2]; exact (show 10 + 1 ≤ 2048 from oq_5655e407), by rw [E.2.2.2]; exact (show 8 + (6 + 11) + 189 ≤ 84000 from oq_f8649f31), by rw [E.2.2.2]; exact (show (ce + 3) + 0 ≤ 601024 by first | (clear g24 hps17 he16; omega) | (clear hps17 he16; omega) | omega), by rw [E.2.2.2]; exact (show (sl + 18) + 0 ≤ 7293034 by first | (clear g24 hps17 he16; omega) | (clear hps17 he16; omega) | omega)⟩ (Nat.le_of_ble_eq_true rfl) (fun vv s28 hq => ?_) (fun ee s28 hq => ?_)))
      rotate_left
      · obtain ⟨Is28, Fs28, JRLx_s28, e29, hv, hrs28, hps28⟩ := hq; cases hv
      obtain ⟨Is28, Fs28, JRLx_s28, e29, hv, hrs28, hps28⟩ := hq
      cases hv
      have JRLx_s28 : RLx s28 := RLx_fm Fs28 (by decide) JRLx_s17
      have JFEQ_s28 : FEQ s28 := FEQ_fm Fs28 (by decide) JFEQ_s17
      have JARJ_s28 : ARJ s28 := ARJ_fm Fs28 ⟨by decide +kernel, by decide +kernel, by decide +kernel, by decide +kernel, by decide +kernel, by decide +kernel, by decide +kernel, by decide +kernel⟩ JARJ_s17
      have JPTJ_s28 : PTJ s28 := PTJ_fm Fs28 (by decide +kernel) JPTJ_s17
      have ws28_0 : iI s28 0 = iI s17 0 := fm_iq Fs28 rfl
      have ws28_74 : iI s28 74 = iI s17 74 := fm_iq Fs28 rfl
      have ws28_9 : iI s28 9 = iI s17 9 := fm_iq Fs28 rfl
      have ws28_90 : iI s28 90 = iI s17 90 := fm_iq Fs28 rfl
      have ws28_20 : iI s28 20 = iI s17 20 := fm_iq Fs28 rfl
      have ws28_98 : iI s28 98 = iI s17 98 := fm_iq Fs28 rfl
      have ws28_70 : iI s28 70 = iI s17 70 := fm_iq Fs28 rfl
      have b30 := bi_107 Is28
      have ws28_12 : iI s28 12 = iI s17 12 := fm_iq Fs28 rfl
      have ws28_89 : iI s28 89 = iI s17 89 := fm_iq Fs28 rfl
      have wos28 : iO s28 = iO s17 := fm_o Fs28 (by decide)
      show WS k 1634 [(5, .int (Int32.ofInt e18)), (0, .ref q1), (1, .ref (A 0)), (2, .ref (A 179)), (3, .ref (A 517)), (4, .int (Int32.ofInt i))] [.int (Int32.ofInt e29)] (Wd A dT s28) (ce + 3) (sl + 18)
      rcases hps17 with cc | cc | cc
      ·
        rcases hps28 with mm | mm | mm
        ·
          have hC9 : SRW (iI s 70).toNat (cD s) (cBk s) (cHd s) (cD s28) (cBk s28) (cHd s28) := srw_le (srw_t cc.2.2.2.2.2.2.2.2.2.2 (srw_c (sam_fm Fs28 (by decide +kernel)) (sam_fm Fs28 (by decide +kernel)) (sam_fm Fs28 (by decide +kernel)))) (by first | (clear hps28 g24 hps17 he16; omega) | (clear g24 hps17 he16; omega) | omega)
          have hM9 : SRW (iI s 70).toNat (mD s) (mBk s) (mHd s) (mD s28) (mBk s28) (mHd s28) := srw_le (srw_t (srw_m (sam_fm Fs17 (by decide +kernel)) (sam_fm Fs17 (by decide +kernel)) (hr_fm Fs17 (by decide +kernel)) (by first | (clear hps28 g24 hps17 he16; omega) | (clear g24 hps17 he16; omega) | omega)) mm.2.2.2.2.2) (by first | (clear hps28 g24 hps17 he16; omega) | (clear g24 hps17 he16; omega) | omega)
          have hR9 : RWJ s28 := rwj_s jRWJ (by first | (clear hps28 g24 hps17 he16; omega) | (clear g24 hps17 he16; omega) | omega) hC9 hM9
          have hF9 : FTK s28 := ftk_s jFTK ((fm_i Fs28 (by decide +kernel)).trans (fm_i Fs17 (by decide +kernel))) (by first | (clear hps28 g24 hps17 he16; omega) | (clear g24 hps17 he16; omega) | omega) ((fm_i Fs28 (by decide +kernel)).trans (fm_i Fs17 (by decide +kernel))) hC9 (sam_ts (sam_fm Fs17 (by decide +kernel)) (sam_fm Fs28 (by decide +kernel)))
          refine z_store X (lv' := [(6, .int (Int32.ofInt e29)), (5, .int (Int32.ofInt e18)), (0, .ref q1), (1, .ref (A 0)), (2, .ref (A 179)), (3, .ref (A 517)), (4, .int (Int32.ofInt i))]) rfl (by decide) (fun _ h => h) (z_goto X (t := 1894) rfl rfl (w_widen (ce' := ce + 29) (sl' := sl + 222) (by first | exact Nat.le_add_right _ _ | exact Nat.add_le_add_left (by decide) _ | omega) (by first | exact Nat.le_add_right _ _ | exact Nat.add_le_add_left (by decide) _ | omega) ?_))
          exact WS_lv (lv := [(0, .ref q1), (1, .ref (A 0)), (2, .ref (A 179)), (3, .ref (A 517)), (4, .int (Int32.ofInt i))]) (List.forall_mem_cons.mpr ⟨(List.Mem.tail _ (List.Mem.tail _ (List.Mem.head _))), (List.forall_mem_cons.mpr ⟨(List.Mem.tail _ (List.Mem.tail _ (List.Mem.tail _ (List.Mem.head _)))), (List.forall_mem_cons.mpr ⟨(List.Mem.tail _ (List.Mem.tail _ (List.Mem.tail _ (List.Mem.tail _ (List.Mem.head _))))), (List.forall_mem_cons.mpr ⟨(List.Mem.tail _ (List.Mem.tail _ (List.Mem.tail _ (List.Mem.tail _ (List.Mem.tail _ (List.Mem.head _)))))), (List.forall_mem_cons.mpr ⟨(List.Mem.tail _ (List.Mem.tail _ (List.Mem.tail _ (List.Mem.tail _ (List.Mem.tail _ (List.Mem.tail _ (List.Mem.head _))))))), (fun q h => absurd h List.not_mem_nil)⟩)⟩)⟩)⟩)⟩) (hk A _ Is28 JRLx_s28 JFEQ_s28 hR9 hF9 JARJ_s28 JPTJ_s28 (by first | exact oq_f34933ba ws28_89 ws17_89 p1 b10.1 | omega) (by first | exact oq_d7ce4408 ws28_12 ws17_12 p2 | omega) (by first | exact oq_5bcdc35f ws28_74 ws28_0 ws17_74 ws17_0 p3 | omega) (by first | exact oq_5bcdc35f ws28_90 ws28_9 ws17_90 ws17_9 p4 | omega) (by first | exact oq_5bcdc35f ws28_98 ws28_20 ws17_98 ws17_20 p5 | omega) (by first | (clear hps28 g24 hps17 he16; omega) | (clear g24 hps17 he16; omega) | omega))
        ·
          exfalso
          omega
        ·
          exfalso
          omega
      ·
        rcases hps28 with mm | mm | mm
        ·
          exfalso
          omega
        ·
          have hC9 := rwa_u cc.2.2.2.2.2.2.2.2.2.2 (srw_c (sam_fm Fs28 (by decide +kernel)) (sam_fm Fs28 (by decide +kernel)) (sam_fm Fs28 (by decide +kernel)))
          have hM9 := mm.2.2.2.2.2
          rw [show iI s17 107 = iI s 70 by first | (clear hps28 g24 hps17 he16; omega) | (clear g24 hps17 he16; omega) | omega] at hM9
          have hR9 : RWJ s28 := rwj_up (by rw [pcs_c (fun j hj => (jPTJ.2.1 j hj).trans ((sam_fm Fs17 (by decide +kernel) : SAM 228 _ _) j).symm) _]) jRWJ (by first | (clear hps28 g24 hps17 he16; omega) | (clear g24 hps17 he16; omega) | omega) (by first | (clear hps28 g24 hps17 he16; omega) | (clear g24 hps17 he16; omega) | omega) hC9 (rwa_t (srw_m (sam_fm Fs17 (by decide +kernel)) (sam_fm Fs17 (by decide +kernel)) (hr_fm Fs17 (by decide +kernel)) (by first | (clear hps28 g24 hps17 he16; omega) | (clear g24 hps17 he16; omega) | omega)) (rwa_w hM9 (by first | (clear hps28 g24 hps17 he16; omega) | (clear g24 hps17 he16; omega) | omega)))
          have hF9 : FTK s28 := ftk_up jFTK (by first | (clear hps28 g24 hps17 he16; omega) | (clear g24 hps17 he16; omega) | omega) (by first | (clear hps28 g24 hps17 he16; omega) | (clear g24 hps17 he16; omega) | omega) (by first | (clear hps28 g24 hps17 he16; omega) | (clear g24 hps17 he16; omega) | omega) ((fm_i Fs28 (by decide +kernel)).trans (fm_i Fs17 (by decide +kernel))) hC9
          refine z_store X (lv' := [(6, .int (Int32.ofInt e29)), (5, .int (Int32.ofInt e18)), (0, .ref q1), (1, .ref (A 0)), (2, .ref (A 179)), (3, .ref (A 517)), (4, .int (Int32.ofInt i))]) rfl (by decide) (fun _ h => h) (z_goto X (t := 1894) rfl rfl (w_widen (ce' := ce + 29) (sl' := sl + 222) (by first | exact Nat.le_add_right _ _ | exact Nat.add_le_add_left (by decide) _ | omega) (by first | exact Nat.le_add_right _ _ | exact Nat.add_le_add_left (by decide) _ | omega) ?_))
          exact WS_lv (lv := [(0, .ref q1), (1, .ref (A 0)), (2, .ref (A 179)), (3, .ref (A 517)), (4, .int (Int32.ofInt i))]) (List.forall_mem_cons.mpr ⟨(List.Mem.tail _ (List.Mem.tail _ (List.Mem.head _))), (List.forall_mem_cons.mpr ⟨(List.Mem.tail _ (List.Mem.tail _ (List.Mem.tail _ (List.Mem.head _)))), (List.forall_mem_cons.mpr ⟨(List.Mem.tail _ (List.Mem.tail _ (List.Mem.tail _ (List.Mem.tail _ (List.Mem.head _))))), (List.forall_mem_cons.mpr ⟨(List.Mem.tail _ (List.Mem.tail _ (List.Mem.tail _ (List.Mem.tail _ (List.Mem.tail _ (List.Mem.head _)))))), (List.forall_mem_cons.mpr ⟨(List.Mem.tail _ (List.Mem.tail _ (List.Mem.tail _ (List.Mem.tail _ (List.Mem.tail _ (List.Mem.tail _ (List.Mem.head _))))))), (fun q h => absurd h List.not_mem_nil)⟩)⟩)⟩)⟩)⟩) (hk A _ Is28 JRLx_s28 JFEQ_s28 hR9 hF9 JARJ_s28 JPTJ_s28 (by first | exact oq_f34933ba ws28_89 ws17_89 p1 b10.1 | omega) (by first | exact oq_d7ce4408 ws28_12 ws17_12 p2 | omega) (by first | exact oq_5bcdc35f ws28_74 ws28_0 ws17_74 ws17_0 p3 | omega) (by first | exact oq_5bcdc35f ws28_90 ws28_9 ws17_90 ws17_9 p4 | omega) (by first | exact oq_5bcdc35f ws28_98 ws28_20 ws17_98 ws17_20 p5 | omega) (by first | (clear hps28 g24 hps17 he16; omega) | (clear g24 hps17 he16; omega) | omega))
        ·
          exfalso
          omega
      ·
        rcases hps28 with mm | mm | mm
        ·
          exfalso
          omega
        ·
          exfalso
          omega
        ·
          have hC9 : SRW (iI s 70).toNat (cD s) (cBk s) (cHd s) (cD s28) (cBk s28) (cHd s28) := srw_le (srw_t cc.2.2.2 (srw_c (sam_fm Fs28 (by decide +kernel)) (sam_fm Fs28 (by decide +kernel)) (sam_fm Fs28 (by decide +kernel)))) (by first | (clear hps28 g24 hps17 he16; omega) | (clear g24 hps17 he16; omega) | omega)
          have hM9 : SRW (iI s 70).toNat (mD s) (mBk s) (mHd s) (mD s28) (mBk s28) (mHd s28) := srw_le (srw_t (srw_m (sam_fm Fs17 (by decide +kernel)) (sam_fm Fs17 (by decide +kernel)) (hr_fm Fs17 (by decide +kernel)) (by first | (clear hps28 g24 hps17 he16; omega) | (clear g24 hps17 he16; omega) | omega)) mm.2.2.2) (by first | (clear hps28 g24 hps17 he16; omega) | (clear g24 hps17 he16; omega) | omega)
          have hR9 : RWJ s28 := rwj_s jRWJ (by first | (clear hps28 g24 hps17 he16; omega) | (clear g24 hps17 he16; omega) | omega) hC9 hM9
          have hF9 : FTK s28 := ftk_s jFTK ((fm_i Fs28 (by decide +kernel)).trans (fm_i Fs17 (by decide +kernel))) (by first | (clear hps28 g24 hps17 he16; omega) | (clear g24 hps17 he16; omega) | omega) ((fm_i Fs28 (by decide +kernel)).trans (fm_i Fs17 (by decide +kernel))) hC9 (sam_ts (sam_fm Fs17 (by decide +kernel)) (sam_fm Fs28 (by decide +kernel)))
          refine z_store X (lv' := [(6, .int (Int32.ofInt e29)), (5, .int (Int32.ofInt e18)), (0, .ref q1), (1, .ref (A 0)), (2, .ref (A 179)), (3, .ref (A 517)), (4, .int (Int32.ofInt i))]) rfl (by decide) (fun _ h => h) (z_goto X (t := 1894) rfl rfl (w_widen (ce' := ce + 29) (sl' := sl + 222) (by first | exact Nat.le_add_right _ _ | exact Nat.add_le_add_left (by decide) _ | omega) (by first | exact Nat.le_add_right _ _ | exact Nat.add_le_add_left (by decide) _ | omega) ?_))
          exact WS_lv (lv := [(0, .ref q1), (1, .ref (A 0)), (2, .ref (A 179)), (3, .ref (A 517)), (4, .int (Int32.ofInt i))]) (List.forall_mem_cons.mpr ⟨(List.Mem.tail _ (List.Mem.tail _ (List.Mem.head _))), (List.forall_mem_cons.mpr ⟨(List.Mem.tail _ (List.Mem.tail _ (List.Mem.tail _ (List.Mem.head _)))), (List.forall_mem_cons.mpr ⟨(List.Mem.tail _ (List.Mem.tail _ (List.Mem.tail _ (List.Mem.tail _ (List.Mem.head _))))), (List.forall_mem_cons.mpr ⟨(List.Mem.tail _ (List.Mem.tail _ (List.Mem.tail _ (List.Mem.tail _ (List.Mem.tail _ (List.Mem.head _)))))), (List.forall_mem_cons.mpr ⟨(List.Mem.tail _ (List.Mem.tail _ (List.Mem.tail _ (List.Mem.tail _ (List.Mem.tail _ (List.Mem.tail _ (List.Mem.head _))))))), (fun q h => absurd h List.not_mem_nil)⟩)⟩)⟩)⟩)⟩) (hk A _ Is28 JRLx_s28 JFEQ_s28 hR9 hF9 JARJ_s28 JPTJ_s28 (by first | exact oq_f34933ba ws28_89 ws17_89 p1 b10.1 | omega) (by first | exact oq_d7ce4408 ws28_12 ws17_12 p2 | omega) (by first | exact oq_5bcdc35f ws28_74 ws28_0 ws17_74 ws17_0 p3 | omega) (by first | exact oq_5bcdc35f ws28_90 ws28_9 ws17_90 ws17_9 p4 | omega) (by first | exact oq_5bcdc35f ws28_98 ws28_20 ws17_98 ws17_20 p5 | omega) (by first | (clear hps28 g24 hps17 he16; omega) | (clear g24 hps17 he16; omega) | omega))
  refine z_if_eq X (t := 1591) rfl rfl ⟨by first | exact sr14.1 | omega, by first | exact sr14.2 | omega⟩ (fun g31 => ?_) (fun g31 => ?_)
  ·
    exact z_const X rfl (N15 _ (Or.inl ⟨g31, rfl⟩))
  ·
    exact z_const X rfl (z_goto X (t := 1592) rfl rfl (N15 _ (Or.inr (⟨g31, rfl⟩))))
theorem lc_37 (G : GX l s0 D tys a0 dT) (GR : RS0 s0) (SF : SF0 s0) (GT : TXs0 s0) (GW : TXw0 s0) {k : kx_T} (X : AX k 350 dT) (E : kL k = l ∧ kS0 k = s0 ∧ kD k = D ∧ kR k = room_1) {q1 L : Nat} {xs : Nat → Int32} (S : SX k q1 L xs) (hL : L ≤ 3072) (I : Bd s) (jR : RLx s) (jFEQ : FEQ s) (jRWJ : RWJ s) (jFTK : FTK s) (jARJ : ARJ s) (jPTJ : PTJ s) (p1 : iI s 89 = 1) (p2 : iI s 12 ≤ 8) (p3 : iI s 0 = iI s 74) (p4 : iI s 9 = iI s 90) (p5 : iI s 20 = iI s 98) (p6 : iI s 70 = iI s 107) {i : Int} (hi : 0 ≤ i ∧ i + 6 ≤ (L : Int)) {ce sl : Nat} (hce : ce + 29 ≤ 601024) (hsl : sl + 222 ≤ 7293034) (hk : ∀ (A : Nat → Nat) (t : PS), Bd t → RLx t → FEQ t → RWJ t → FTK t → ARJ t → PTJ t → iI t 89 = 1 → iI t 12 ≤ 8 → iI t 0 = iI t 74 → iI t 9 = iI t 90 → iI t 20 = iI t 98 → iI t 70 = iI t 107 → WS k 1894 [(0, .ref q1), (1, .ref (A 0)), (2, .ref (A 179)), (3, .ref (A 517)), (4, .int (Int32.ofInt i))] [] (Wd A dT t) (ce + 29) (sl + 222)) : WS k 1639 [(0, .ref q1), (1, .ref (A 0)), (2, .ref (A 179)), (3, .ref (A 517)), (4, .int (Int32.ofInt i))] [] (Wd A dT s) ce sl := by
  have F : Fm [71, 72, 73] [156, 155, 1460] s s := fm_rf _ _ s
  have b1 := bi_0 I
  have b2 := bi_74 I
  have b3 := bi_9 I
  have b4 := bi_90 I
  have b5 := bi_20 I
  have b6 := bi_98 I
  have b7 := bi_70 I
  have b8 := bi_107 I
  have b9 := bi_12 I
  have b10 := bi_89 I
  refine z_aload_n X (x := A 0) rfl (List.Mem.tail _ (List.Mem.head _)) (z_aload_n X (x := q1) rfl (List.Mem.head _) (z_load X (x := i) rfl (List.Mem.tail _ (List.Mem.tail _ (List.Mem.tail _ (List.Mem.tail _ (List.Mem.head _))))) (z_const X rfl (z_add X rfl (z_sld X S hL rfl (show 0 ≤ (i + 1) ∧ (i + 1) < (L : Int) by first | exact sx_in hi (by decide) | omega) ?_)))))
  have sr11 : rng (sc xs (i + 1)) := sc_rng
  refine z_aload_n X (x := A 517) rfl (List.Mem.tail _ (List.Mem.tail _ (List.Mem.tail _ (List.Mem.head _)))) (z_callL X (rm := rmN 346) (As := [.ref (A 0), .int (Int32.ofInt (sc xs (i + 1))), .ref (A 517)]) (st := []) rfl (by decide) rfl (by rw [E.1, E.2.1, E.2.2.1]; exact lw_fit6 G I jFTK (by omega)) ⟨by rw [E.2.2.2]; exact (show 10 + 1 ≤ 2048 by decide), by rw [E.2.2.2]; exact (show 8 + (4 + 11) + 190 ≤ 84000 by decide), by rw [E.2.2.2]; exact (show ce + 1 ≤ 601024 by first | exact rmo_1 hce (by decide) | exact rmo_2 hce (by decide) | omega), by rw [E.2.2.2]; exact (show sl + 6 ≤ 7293034 by first | exact rmo_1 hsl (by decide) | exact rmo_2 hsl (by decide) | omega)⟩ (Nat.le_of_ble_eq_true rfl) (fun vv A s12 hA2 hq => ?_) (fun ee A s12 hA2 hq => ?_))
  rotate_left
  · obtain ⟨Is12, Fs12, JFTK_s12, e13, hv, hrs12, hps12⟩ := hq; cases hv
  obtain ⟨Is12, Fs12, JFTK_s12, e13, hv, hrs12, hps12⟩ := hq
  cases hv
  rw [← hA2 0 (by decide)]
  rw [← hA2 179 (by decide)]
  rw [← hA2 517 (by decide)]
  have JRLx_s12 : RLx s12 := RLx_fm Fs12 (by decide) jR
  have JFEQ_s12 : FEQ s12 := FEQ_fm Fs12 (by decide) jFEQ
  have JRWJ_s12 : RWJ s12 := RWJ_fm Fs12 (by decide +kernel) jRWJ
  have JARJ_s12 : ARJ s12 := ARJ_fm Fs12 ⟨by decide +kernel, by decide +kernel, by decide +kernel, by decide +kernel, by decide +kernel, by decide +kernel, by decide +kernel, by decide +kernel⟩ jARJ
  have JPTJ_s12 : PTJ s12 := PTJ_fm Fs12 (by decide +kernel) jPTJ
  have ws12_0 : iI s12 0 = iI s 0 := fm_iq Fs12 rfl
  have ws12_74 : iI s12 74 = iI s 74 := fm_iq Fs12 rfl
  have ws12_9 : iI s12 9 = iI s 9 := fm_iq Fs12 rfl
  have ws12_90 : iI s12 90 = iI s 90 := fm_iq Fs12 rfl
  have ws12_20 : iI s12 20 = iI s 20 := fm_iq Fs12 rfl
  have ws12_98 : iI s12 98 = iI s 98 := fm_iq Fs12 rfl
  have ws12_70 : iI s12 70 = iI s 70 := fm_iq Fs12 rfl
  have ws12_107 : iI s12 107 = iI s 107 := fm_iq Fs12 rfl
  have ws12_12 : iI s12 12 = iI s 12 := fm_iq Fs12 rfl
  have ws12_89 : iI s12 89 = iI s 89 := fm_iq Fs12 rfl
  show WS k 1650 [(0, .ref q1), (1, .ref (A 0)), (2, .ref (A 179)), (3, .ref (A 517)), (4, .int (Int32.ofInt i))] [.int (Int32.ofInt e13)] (Wd A dT s12) (ce + 1) (sl + 6)
  refine z_store X (lv' := [(5, .int (Int32.ofInt e13)), (0, .ref q1), (1, .ref (A 0)), (2, .ref (A 179)), (3, .ref (A 517)), (4, .int (Int32.ofInt i))]) rfl (by decide) (fun _ h => h) (z_aload_n X (x := A 179) rfl (List.Mem.tail _ (List.Mem.tail _ (List.Mem.tail _ (List.Mem.head _)))) (z_aload_n X (x := q1) rfl (List.Mem.tail _ (List.Mem.head _)) (z_load X (x := i) rfl (List.Mem.tail _ (List.Mem.tail _ (List.Mem.tail _ (List.Mem.tail _ (List.Mem.tail _ (List.Mem.head _)))))) (z_const X rfl (z_add X rfl (z_sld X S hL rfl (show 0 ≤ (i + 1) ∧ (i + 1) < (L : Int) by first | exact sx_in hi (by decide) | omega) ?_))))))
  have sr14 : rng (sc xs (i + 1)) := sc_rng
  refine z_callV X 179 (rm := rmN 289) (As := [.int (Int32.ofInt (sc xs (i + 1)))]) (st := []) rfl rfl (by decide) rfl (by rw [E.1, E.2.1, E.2.2.1]; exact k_fit6 G Is12 (by first | exact ⟨sr14.1, sr14.2⟩ | omega)) ⟨by rw [E.2.2.2]; exact (show 8 + 1 ≤ 2048 from oq_5bf2829b), by rw [E.2.2.2]; exact (show 8 + (7 + 11) + 145 ≤ 84000 from oq_8fd475f0), by rw [E.2.2.2]; exact (show (ce + 1) + 0 ≤ 601024 by first | (clear hps12; omega) | omega), by rw [E.2.2.2]; exact (show (sl + 6) + 0 ≤ 7293034 by first | (clear hps12; omega) | omega)⟩ (Nat.le_of_ble_eq_true rfl) (fun vv s15 hq => ?_) (fun ee s15 hq => ?_)
  rotate_left
  · obtain ⟨Is15, Fs15, e16, hv, hrs15, hps15⟩ := hq; cases hv
  obtain ⟨Is15, Fs15, e16, hv, hrs15, hps15⟩ := hq
  cases hv
  have JRLx_s15 : RLx s15 := RLx_fm Fs15 (by decide) JRLx_s12
  have JFEQ_s15 : FEQ s15 := FEQ_fm Fs15 (by decide) JFEQ_s12
  have JRWJ_s15 : RWJ s15 := RWJ_fm Fs15 (by decide +kernel) JRWJ_s12
  have JARJ_s15 : ARJ s15 := ARJ_fm Fs15 ⟨by decide +kernel, by decide +kernel, by decide +kernel, by decide +kernel, by decide +kernel, by decide +kernel, by decide +kernel, by decide +kernel⟩ JARJ_s12
  have JPTJ_s15 : PTJ s15 := PTJ_fm Fs15 (by decide +kernel) JPTJ_s12
  have JFTK_s15 : FTK s15 := FTK_fm Fs15 (by decide) JFTK_s12
  have ws15_0 : iI s15 0 = iI s12 0 := fm_iq Fs15 rfl
  have ws15_74 : iI s15 74 = iI s12 74 := fm_iq Fs15 rfl
  have ws15_9 : iI s15 9 = iI s12 9 := fm_iq Fs15 rfl
  have ws15_90 : iI s15 90 = iI s12 90 := fm_iq Fs15 rfl
  have ws15_20 : iI s15 20 = iI s12 20 := fm_iq Fs15 rfl
  have ws15_98 : iI s15 98 = iI s12 98 := fm_iq Fs15 rfl
  have ws15_70 : iI s15 70 = iI s12 70 := fm_iq Fs15 rfl
  have ws15_107 : iI s15 107 = iI s12 107 := fm_iq Fs15 rfl
  have ws15_12 : iI s15 12 = iI s12 12 := fm_iq Fs15 rfl
  have ws15_89 : iI s15 89 = iI s12 89 := fm_iq Fs15 rfl
  have wos15 : iO s15 = iO s12 := fm_o Fs15 (by decide)
  show WS k 1662 [(5, .int (Int32.ofInt e13)), (0, .ref q1), (1, .ref (A 0)), (2, .ref (A 179)), (3, .ref (A 517)), (4, .int (Int32.ofInt i))] [.int (Int32.ofInt e16)] (Wd A dT s15) (ce + 1) (sl + 6)
  rcases hps12 with cc | cc
  ·
    rcases hps15 with mm | mm
    ·
      have rq17 := fte_eq (srw_t jRWJ.2 (srw_m (sam_fm Fs12 (by decide +kernel)) (sam_fm Fs12 (by decide +kernel)) (hr_fm Fs12 (by decide +kernel)) (by first | (clear hps15 hps12; omega) | (clear hps12; omega) | omega))) cc.2.2 (by have z := mm.2.2; rw [show iI s12 107 = iI s 70 by first | (clear hps15 hps12; omega) | (clear hps12; omega) | omega] at z; exact z)
      refine z_store X (lv' := [(6, .int (Int32.ofInt e16)), (5, .int (Int32.ofInt e13)), (0, .ref q1), (1, .ref (A 0)), (2, .ref (A 179)), (3, .ref (A 517)), (4, .int (Int32.ofInt i))]) rfl (by decide) (fun _ h => h) (z_aload_n X (x := A 179) rfl (List.Mem.tail _ (List.Mem.tail _ (List.Mem.tail _ (List.Mem.tail _ (List.Mem.head _))))) (z_callV X 179 (rm := rmN 186) (As := []) (st := []) rfl rfl (by decide) rfl (by rw [E.1, E.2.1, E.2.2.1]; exact k_thrown2 G Is15 ) ⟨by rw [E.2.2.2]; exact (show 6 + 1 ≤ 2048 from oq_4d34cb53), by rw [E.2.2.2]; exact (show 8 + (1 + 11) + 100 ≤ 84000 from oq_a32dccc4), by rw [E.2.2.2]; exact (show (ce + 1) + 0 ≤ 601024 by first | (clear hps15 hps12; omega) | (clear hps12; omega) | omega), by rw [E.2.2.2]; exact (show (sl + 6) + 0 ≤ 7293034 by first | (clear hps15 hps12; omega) | (clear hps12; omega) | omega)⟩ (Nat.le_of_ble_eq_true rfl) (fun vv s18 hq => ?_) (fun ee s18 hq => ?_)))
      rotate_left
      · obtain ⟨rfl, e19, hv, hrs18, hps18⟩ := hq; cases hv
      obtain ⟨rfl, e19, hv, hrs18, hps18⟩ := hq
      cases hv
      show WS k 1668 [(6, .int (Int32.ofInt e16)), (5, .int (Int32.ofInt e13)), (0, .ref q1), (1, .ref (A 0)), (2, .ref (A 179)), (3, .ref (A 517)), (4, .int (Int32.ofInt i))] [.int (Int32.ofInt e19)] (Wd A dT s15) (ce + 1) (sl + 6)
      refine z_load X (x := e13) rfl (List.Mem.tail _ (List.Mem.head _)) (z_icmp_eq X (t := 1675) rfl rfl hrs18 ⟨by first | (clear hps15 hps12; omega) | (clear hps12; omega) | omega, by first | (clear hps15 hps12; omega) | (clear hps12; omega) | omega⟩ (fun g20 => ?_) (fun g20 => ?_))
      ·
        refine z_load X (x := e13) rfl (List.Mem.tail _ (List.Mem.head _)) (z_if_ne X (t := 1692) rfl rfl ⟨by first | (clear hps15 hps12; omega) | (clear hps12; omega) | omega, by first | (clear hps15 hps12; omega) | (clear hps12; omega) | omega⟩ (fun g21 => ?_) (fun g21 => ?_))
        ·
          refine z_goto X (t := 1894) rfl rfl (w_widen (ce' := ce + 29) (sl' := sl + 222) (by first | exact Nat.le_add_right _ _ | exact Nat.add_le_add_left (by decide) _ | omega) (by first | exact Nat.le_add_right _ _ | exact Nat.add_le_add_left (by decide) _ | omega) ?_)
          exact WS_lv (lv := [(0, .ref q1), (1, .ref (A 0)), (2, .ref (A 179)), (3, .ref (A 517)), (4, .int (Int32.ofInt i))]) (List.forall_mem_cons.mpr ⟨(List.Mem.tail _ (List.Mem.tail _ (List.Mem.head _))), (List.forall_mem_cons.mpr ⟨(List.Mem.tail _ (List.Mem.tail _ (List.Mem.tail _ (List.Mem.head _)))), (List.forall_mem_cons.mpr ⟨(List.Mem.tail _ (List.Mem.tail _ (List.Mem.tail _ (List.Mem.tail _ (List.Mem.head _))))), (List.forall_mem_cons.mpr ⟨(List.Mem.tail _ (List.Mem.tail _ (List.Mem.tail _ (List.Mem.tail _ (List.Mem.tail _ (List.Mem.head _)))))), (List.forall_mem_cons.mpr ⟨(List.Mem.tail _ (List.Mem.tail _ (List.Mem.tail _ (List.Mem.tail _ (List.Mem.tail _ (List.Mem.tail _ (List.Mem.head _))))))), (fun q h => absurd h List.not_mem_nil)⟩)⟩)⟩)⟩)⟩) (hk A _ Is15 JRLx_s15 JFEQ_s15 JRWJ_s15 JFTK_s15 JARJ_s15 JPTJ_s15 (by first | exact oq_f34933ba ws15_89 ws12_89 p1 b10.1 | omega) (by first | exact oq_d7ce4408 ws15_12 ws12_12 p2 | omega) (by first | exact oq_5bcdc35f ws15_74 ws15_0 ws12_74 ws12_0 p3 | omega) (by first | exact oq_5bcdc35f ws15_90 ws15_9 ws12_90 ws12_9 p4 | omega) (by first | exact oq_5bcdc35f ws15_98 ws15_20 ws12_98 ws12_20 p5 | omega) (by first | exact oq_5bcdc35f ws15_107 ws15_70 ws12_107 ws12_70 p6 | omega))
        ·
          refine z_aload_n X (x := A 517) rfl (List.Mem.tail _ (List.Mem.tail _ (List.Mem.tail _ (List.Mem.tail _ (List.Mem.tail _ (List.Mem.head _)))))) (z_const X rfl (z_lO X rfl (z_load X (x := e16) rfl (List.Mem.head _) (w_i2l X.1 (ax_d X (show cdA 350 1685 = some (.i2l, 1, 0, 0, 0) from rfl)) (w_lcmp X.1 (ax_d X (show cdA 350 1686 = some (.lcmp, 1, 0, 0, 0) from rfl)) (z_lc (show rng e16 by first | (clear hps15 hps12; omega) | (clear hps12; omega) | omega) (fun c22 hc22 ic22 => ?_)))))))
          show WS k 1687 [(6, .int (Int32.ofInt e16)), (5, .int (Int32.ofInt e13)), (0, .ref q1), (1, .ref (A 0)), (2, .ref (A 179)), (3, .ref (A 517)), (4, .int (Int32.ofInt i))] [.int (Int32.ofInt c22)] (Wd A dT s15) (ce + 1) (sl + 6)
          refine z_if_eq X (t := 1692) rfl rfl ⟨by first | (clear hps15 hps12; omega) | (clear hps12; omega) | omega, by first | (clear hps15 hps12; omega) | (clear hps12; omega) | omega⟩ (fun g23 => ?_) (fun g23 => ?_)
          ·
            refine z_goto X (t := 1894) rfl rfl (w_widen (ce' := ce + 29) (sl' := sl + 222) (by first | exact Nat.le_add_right _ _ | exact Nat.add_le_add_left (by decide) _ | omega) (by first | exact Nat.le_add_right _ _ | exact Nat.add_le_add_left (by decide) _ | omega) ?_)
            exact WS_lv (lv := [(0, .ref q1), (1, .ref (A 0)), (2, .ref (A 179)), (3, .ref (A 517)), (4, .int (Int32.ofInt i))]) (List.forall_mem_cons.mpr ⟨(List.Mem.tail _ (List.Mem.tail _ (List.Mem.head _))), (List.forall_mem_cons.mpr ⟨(List.Mem.tail _ (List.Mem.tail _ (List.Mem.tail _ (List.Mem.head _)))), (List.forall_mem_cons.mpr ⟨(List.Mem.tail _ (List.Mem.tail _ (List.Mem.tail _ (List.Mem.tail _ (List.Mem.head _))))), (List.forall_mem_cons.mpr ⟨(List.Mem.tail _ (List.Mem.tail _ (List.Mem.tail _ (List.Mem.tail _ (List.Mem.tail _ (List.Mem.head _)))))), (List.forall_mem_cons.mpr ⟨(List.Mem.tail _ (List.Mem.tail _ (List.Mem.tail _ (List.Mem.tail _ (List.Mem.tail _ (List.Mem.tail _ (List.Mem.head _))))))), (fun q h => absurd h List.not_mem_nil)⟩)⟩)⟩)⟩)⟩) (hk A _ Is15 JRLx_s15 JFEQ_s15 JRWJ_s15 JFTK_s15 JARJ_s15 JPTJ_s15 (by first | exact oq_f34933ba ws15_89 ws12_89 p1 b10.1 | omega) (by first | exact oq_d7ce4408 ws15_12 ws12_12 p2 | omega) (by first | exact oq_5bcdc35f ws15_74 ws15_0 ws12_74 ws12_0 p3 | omega) (by first | exact oq_5bcdc35f ws15_90 ws15_9 ws12_90 ws12_9 p4 | omega) (by first | exact oq_5bcdc35f ws15_98 ws15_20 ws12_98 ws12_20 p5 | omega) (by first | exact oq_5bcdc35f ws15_107 ws15_70 ws12_107 ws12_70 p6 | omega))
          ·
            exfalso
            omega
      ·
        exfalso
        omega
    ·
      exfalso
      omega
  ·
    rcases hps15 with mm | mm
    ·
      exfalso
      omega
    ·
      refine z_store X (lv' := [(6, .int (Int32.ofInt e16)), (5, .int (Int32.ofInt e13)), (0, .ref q1), (1, .ref (A 0)), (2, .ref (A 179)), (3, .ref (A 517)), (4, .int (Int32.ofInt i))]) rfl (by decide) (fun _ h => h) (z_aload_n X (x := A 179) rfl (List.Mem.tail _ (List.Mem.tail _ (List.Mem.tail _ (List.Mem.tail _ (List.Mem.head _))))) (z_callV X 179 (rm := rmN 186) (As := []) (st := []) rfl rfl (by decide) rfl (by rw [E.1, E.2.1, E.2.2.1]; exact k_thrown2 G Is15 ) ⟨by rw [E.2.2.2]; exact (show 6 + 1 ≤ 2048 from oq_4d34cb53), by rw [E.2.2.2]; exact (show 8 + (1 + 11) + 100 ≤ 84000 from oq_a32dccc4), by rw [E.2.2.2]; exact (show (ce + 1) + 0 ≤ 601024 by first | (clear hps15 hps12; omega) | (clear hps12; omega) | omega), by rw [E.2.2.2]; exact (show (sl + 6) + 0 ≤ 7293034 by first | (clear hps15 hps12; omega) | (clear hps12; omega) | omega)⟩ (Nat.le_of_ble_eq_true rfl) (fun vv s24 hq => ?_) (fun ee s24 hq => ?_)))
      rotate_left
      · obtain ⟨rfl, e25, hv, hrs24, hps24⟩ := hq; cases hv
      obtain ⟨rfl, e25, hv, hrs24, hps24⟩ := hq
      cases hv
      show WS k 1668 [(6, .int (Int32.ofInt e16)), (5, .int (Int32.ofInt e13)), (0, .ref q1), (1, .ref (A 0)), (2, .ref (A 179)), (3, .ref (A 517)), (4, .int (Int32.ofInt i))] [.int (Int32.ofInt e25)] (Wd A dT s15) (ce + 1) (sl + 6)
      refine z_load X (x := e13) rfl (List.Mem.tail _ (List.Mem.head _)) (z_icmp_eq X (t := 1675) rfl rfl hrs24 ⟨by first | (clear hps15 hps12; omega) | (clear hps12; omega) | omega, by first | (clear hps15 hps12; omega) | (clear hps12; omega) | omega⟩ (fun g26 => ?_) (fun g26 => ?_))
      ·
        refine z_load X (x := e13) rfl (List.Mem.tail _ (List.Mem.head _)) (z_if_ne X (t := 1692) rfl rfl ⟨by first | (clear hps15 hps12; omega) | (clear hps12; omega) | omega, by first | (clear hps15 hps12; omega) | (clear hps12; omega) | omega⟩ (fun g27 => ?_) (fun g27 => ?_))
        ·
          refine z_goto X (t := 1894) rfl rfl (w_widen (ce' := ce + 29) (sl' := sl + 222) (by first | exact Nat.le_add_right _ _ | exact Nat.add_le_add_left (by decide) _ | omega) (by first | exact Nat.le_add_right _ _ | exact Nat.add_le_add_left (by decide) _ | omega) ?_)
          exact WS_lv (lv := [(0, .ref q1), (1, .ref (A 0)), (2, .ref (A 179)), (3, .ref (A 517)), (4, .int (Int32.ofInt i))]) (List.forall_mem_cons.mpr ⟨(List.Mem.tail _ (List.Mem.tail _ (List.Mem.head _))), (List.forall_mem_cons.mpr ⟨(List.Mem.tail _ (List.Mem.tail _ (List.Mem.tail _ (List.Mem.head _)))), (List.forall_mem_cons.mpr ⟨(List.Mem.tail _ (List.Mem.tail _ (List.Mem.tail _ (List.Mem.tail _ (List.Mem.head _))))), (List.forall_mem_cons.mpr ⟨(List.Mem.tail _ (List.Mem.tail _ (List.Mem.tail _ (List.Mem.tail _ (List.Mem.tail _ (List.Mem.head _)))))), (List.forall_mem_cons.mpr ⟨(List.Mem.tail _ (List.Mem.tail _ (List.Mem.tail _ (List.Mem.tail _ (List.Mem.tail _ (List.Mem.tail _ (List.Mem.head _))))))), (fun q h => absurd h List.not_mem_nil)⟩)⟩)⟩)⟩)⟩) (hk A _ Is15 JRLx_s15 JFEQ_s15 JRWJ_s15 JFTK_s15 JARJ_s15 JPTJ_s15 (by first | exact oq_f34933ba ws15_89 ws12_89 p1 b10.1 | omega) (by first | exact oq_d7ce4408 ws15_12 ws12_12 p2 | omega) (by first | exact oq_5bcdc35f ws15_74 ws15_0 ws12_74 ws12_0 p3 | omega) (by first | exact oq_5bcdc35f ws15_90 ws15_9 ws12_90 ws12_9 p4 | omega) (by first | exact oq_5bcdc35f ws15_98 ws15_20 ws12_98 ws12_20 p5 | omega) (by first | exact oq_5bcdc35f ws15_107 ws15_70 ws12_107 ws12_70 p6 | omega))
        ·
          refine z_aload_n X (x := A 517) rfl (List.Mem.tail _ (List.Mem.tail _ (List.Mem.tail _ (List.Mem.tail _ (List.Mem.tail _ (List.Mem.head _)))))) (z_const X rfl (z_lO X rfl (z_load X (x := e16) rfl (List.Mem.head _) (w_i2l X.1 (ax_d X (show cdA 350 1685 = some (.i2l, 1, 0, 0, 0) from rfl)) (w_lcmp X.1 (ax_d X (show cdA 350 1686 = some (.lcmp, 1, 0, 0, 0) from rfl)) (z_lc (show rng e16 by first | (clear hps15 hps12; omega) | (clear hps12; omega) | omega) (fun c28 hc28 ic28 => ?_)))))))
          show WS k 1687 [(6, .int (Int32.ofInt e16)), (5, .int (Int32.ofInt e13)), (0, .ref q1), (1, .ref (A 0)), (2, .ref (A 179)), (3, .ref (A 517)), (4, .int (Int32.ofInt i))] [.int (Int32.ofInt c28)] (Wd A dT s15) (ce + 1) (sl + 6)
          refine z_if_eq X (t := 1692) rfl rfl ⟨by first | (clear hps15 hps12; omega) | (clear hps12; omega) | omega, by first | (clear hps15 hps12; omega) | (clear hps12; omega) | omega⟩ (fun g29 => ?_) (fun g29 => ?_)
          ·
            refine z_goto X (t := 1894) rfl rfl (w_widen (ce' := ce + 29) (sl' := sl + 222) (by first | exact Nat.le_add_right _ _ | exact Nat.add_le_add_left (by decide) _ | omega) (by first | exact Nat.le_add_right _ _ | exact Nat.add_le_add_left (by decide) _ | omega) ?_)
            exact WS_lv (lv := [(0, .ref q1), (1, .ref (A 0)), (2, .ref (A 179)), (3, .ref (A 517)), (4, .int (Int32.ofInt i))]) (List.forall_mem_cons.mpr ⟨(List.Mem.tail _ (List.Mem.tail _ (List.Mem.head _))), (List.forall_mem_cons.mpr ⟨(List.Mem.tail _ (List.Mem.tail _ (List.Mem.tail _ (List.Mem.head _)))), (List.forall_mem_cons.mpr ⟨(List.Mem.tail _ (List.Mem.tail _ (List.Mem.tail _ (List.Mem.tail _ (List.Mem.head _))))), (List.forall_mem_cons.mpr ⟨(List.Mem.tail _ (List.Mem.tail _ (List.Mem.tail _ (List.Mem.tail _ (List.Mem.tail _ (List.Mem.head _)))))), (List.forall_mem_cons.mpr ⟨(List.Mem.tail _ (List.Mem.tail _ (List.Mem.tail _ (List.Mem.tail _ (List.Mem.tail _ (List.Mem.tail _ (List.Mem.head _))))))), (fun q h => absurd h List.not_mem_nil)⟩)⟩)⟩)⟩)⟩) (hk A _ Is15 JRLx_s15 JFEQ_s15 JRWJ_s15 JFTK_s15 JARJ_s15 JPTJ_s15 (by first | exact oq_f34933ba ws15_89 ws12_89 p1 b10.1 | omega) (by first | exact oq_d7ce4408 ws15_12 ws12_12 p2 | omega) (by first | exact oq_5bcdc35f ws15_74 ws15_0 ws12_74 ws12_0 p3 | omega) (by first | exact oq_5bcdc35f ws15_90 ws15_9 ws12_90 ws12_9 p4 | omega) (by first | exact oq_5bcdc35f ws15_98 ws15_20 ws12_98 ws12_20 p5 | omega) (by first | exact oq_5bcdc35f ws15_107 ws15_70 ws12_107 ws12_70 p6 | omega))
          ·
            exfalso
            omega
      ·
        exfalso
        omega
theorem lc_38 (G : GX l s0 D tys a0 dT) (GR : RS0 s0) (SF : SF0 s0) (GT : TXs0 s0) (GW : TXw0 s0) {k : kx_T} (X : AX k 350 dT) (E : kL k = l ∧ kS0 k = s0 ∧ kD k = D ∧ kR k = room_1) {q1 L : Nat} {xs : Nat → Int32} (S : SX k q1 L xs) (hL : L ≤ 3072) (I : Bd s) (jR : RLx s) (jFEQ : FEQ s) (jRWJ : RWJ s) (jFTK : FTK s) (jARJ : ARJ s) (jPTJ : PTJ s) (p1 : iI s 89 = 1) (p2 : iI s 12 ≤ 8) (p3 : iI s 0 = iI s 74) (p4 : iI s 9 = iI s 90) (p5 : iI s 20 = iI s 98) (p6 : iI s 70 = iI s 107) {i : Int} (hi : 0 ≤ i ∧ i + 6 ≤ (L : Int)) {ce sl : Nat} (hce : ce + 29 ≤ 601024) (hsl : sl + 222 ≤ 7293034) (hk : ∀ (A : Nat → Nat) (t : PS), Bd t → RLx t → FEQ t → RWJ t → FTK t → ARJ t → PTJ t → iI t 89 = 1 → iI t 12 ≤ 8 → iI t 0 = iI t 74 → iI t 9 = iI t 90 → iI t 20 = iI t 98 → iI t 70 = iI t 107 → WS k 1894 [(0, .ref q1), (1, .ref (A 0)), (2, .ref (A 179)), (3, .ref (A 517)), (4, .int (Int32.ofInt i))] [] (Wd A dT t) (ce + 29) (sl + 222)) : WS k 1695 [(0, .ref q1), (1, .ref (A 0)), (2, .ref (A 179)), (3, .ref (A 517)), (4, .int (Int32.ofInt i))] [] (Wd A dT s) ce sl := by
  have F : Fm [22, 23, 73, 77, 75, 78, 79, 80, 81] [33, 26, 27, 28, 29, 30, 31, 32, 20, 34, 1460, 202, 204, 205, 206, 207, 208, 209, 210, 211, 212, 213, 214, 215, 216, 217, 218, 219, 220, 221, 222, 223, 224, 225, 226, 227, 203, 161, 230] s s := fm_rf _ _ s
  have b1 := bi_0 I
  have b2 := bi_74 I
  have b3 := bi_9 I
  have b4 := bi_90 I
  have b5 := bi_20 I
  have b6 := bi_98 I
  have b7 := bi_70 I
  have b8 := bi_107 I
  have b9 := bi_12 I
  have b10 := bi_89 I
  refine z_aload_n X (x := A 0) rfl (List.Mem.tail _ (List.Mem.head _)) (z_aload_n X (x := q1) rfl (List.Mem.head _) (z_load X (x := i) rfl (List.Mem.tail _ (List.Mem.tail _ (List.Mem.tail _ (List.Mem.tail _ (List.Mem.head _))))) (z_const X rfl (z_add X rfl (z_sld X S hL rfl (show 0 ≤ (i + 1) ∧ (i + 1) < (L : Int) by first | exact sx_in hi (by decide) | omega) ?_)))))
  have sr11 : rng (sc xs (i + 1)) := sc_rng
  refine z_aload_n X (x := q1) rfl (List.Mem.head _) (z_load X (x := i) rfl (List.Mem.tail _ (List.Mem.tail _ (List.Mem.tail _ (List.Mem.tail _ (List.Mem.head _))))) (z_const X rfl (z_add X rfl (z_sld X S hL rfl (show 0 ≤ (i + 2) ∧ (i + 2) < (L : Int) by first | exact sx_in hi (by decide) | omega) ?_))))
  have sr12 : rng (sc xs (i + 2)) := sc_rng
  refine z_aload_n X (x := q1) rfl (List.Mem.head _) (z_load X (x := i) rfl (List.Mem.tail _ (List.Mem.tail _ (List.Mem.tail _ (List.Mem.tail _ (List.Mem.head _))))) (z_const X rfl (z_add X rfl (z_sld X S hL rfl (show 0 ≤ (i + 3) ∧ (i + 3) < (L : Int) by first | exact sx_in hi (by decide) | omega) ?_))))
  have sr13 : rng (sc xs (i + 3)) := sc_rng
  refine z_aload_n X (x := q1) rfl (List.Mem.head _) (z_load X (x := i) rfl (List.Mem.tail _ (List.Mem.tail _ (List.Mem.tail _ (List.Mem.tail _ (List.Mem.head _))))) (z_const X rfl (z_add X rfl (z_sld X S hL rfl (show 0 ≤ (i + 4) ∧ (i + 4) < (L : Int) by first | exact sx_in hi (by decide) | omega) ?_))))
  have sr14 : rng (sc xs (i + 4)) := sc_rng
  have N15 : ∀ e16 : Int, ((((sc xs (i + 4)) = 0) ∧ e16 = 0) ∨ (((sc xs (i + 4)) ≠ 0) ∧ e16 = 1)) → WS k 1728 [(0, .ref q1), (1, .ref (A 0)), (2, .ref (A 179)), (3, .ref (A 517)), (4, .int (Int32.ofInt i))] [.int (Int32.ofInt e16), .int (Int32.ofInt (sc xs (i + 3))), .int (Int32.ofInt (sc xs (i + 2))), .int (Int32.ofInt (sc xs (i + 1))), .ref (A 0)] (Wd A dT s) ce sl := by
    intro e16 he16
    have re16 : 0 ≤ e16 ∧ e16 ≤ 1 := by first | (clear he16; omega) | omega
    refine z_aload_n X (x := A 517) rfl (List.Mem.tail _ (List.Mem.tail _ (List.Mem.tail _ (List.Mem.head _)))) (z_callL X (rm := rmN 347) (As := [.ref (A 0), .int (Int32.ofInt (sc xs (i + 1))), .int (Int32.ofInt (sc xs (i + 2))), .int (Int32.ofInt (sc xs (i + 3))), .int (Int32.ofInt e16), .ref (A 517)]) (st := []) rfl (by decide) rfl (by rw [E.1, E.2.1, E.2.2.1]; exact lw_lead G I (by first | (clear he16; omega) | omega) (by first | (clear he16; omega) | omega) (by first | (clear he16; omega) | omega) (by first | (clear he16; omega) | omega)) ⟨by rw [E.2.2.2]; exact (show 11 + 1 ≤ 2048 by decide), by rw [E.2.2.2]; exact (show 8 + (7 + 11) + 230 ≤ 84000 by decide), by rw [E.2.2.2]; exact (show ce + 2 ≤ 601024 by first | exact rmo_1 hce (by decide) | exact rmo_2 hce (by decide) | omega), by rw [E.2.2.2]; exact (show sl + 12 ≤ 7293034 by first | exact rmo_1 hsl (by decide) | exact rmo_2 hsl (by decide) | omega)⟩ (Nat.le_of_ble_eq_true rfl) (fun vv A s17 hA2 hq => ?_) (fun ee A s17 hA2 hq => ?_))
    rotate_left
    · obtain ⟨Is17, Fs17, e18, hv, hrs17, hps17⟩ := hq; cases hv
    obtain ⟨Is17, Fs17, e18, hv, hrs17, hps17⟩ := hq
    cases hv
    rw [← hA2 0 (by decide)]
    rw [← hA2 179 (by decide)]
    rw [← hA2 517 (by decide)]
    have JRLx_s17 : RLx s17 := RLx_fm Fs17 (by decide) jR
    have JFEQ_s17 : FEQ s17 := FEQ_fm Fs17 (by decide) jFEQ
    have JRWJ_s17 : RWJ s17 := RWJ_fm Fs17 (by decide +kernel) jRWJ
    have JFTK_s17 : FTK s17 := FTK_fm Fs17 (by decide) jFTK
    have JARJ_s17 : ARJ s17 := ARJ_fm Fs17 ⟨by decide +kernel, by decide +kernel, by decide +kernel, by decide +kernel, by decide +kernel, by decide +kernel, by decide +kernel, by decide +kernel⟩ jARJ
    have JPTJ_s17 : PTJ s17 := PTJ_fm Fs17 (by decide +kernel) jPTJ
    have ws17_0 : iI s17 0 = iI s 0 := fm_iq Fs17 rfl
    have ws17_74 : iI s17 74 = iI s 74 := fm_iq Fs17 rfl
    have ws17_9 : iI s17 9 = iI s 9 := fm_iq Fs17 rfl
    have ws17_90 : iI s17 90 = iI s 90 := fm_iq Fs17 rfl
    have ws17_20 : iI s17 20 = iI s 20 := fm_iq Fs17 rfl
    have ws17_98 : iI s17 98 = iI s 98 := fm_iq Fs17 rfl
    have ws17_70 : iI s17 70 = iI s 70 := fm_iq Fs17 rfl
    have ws17_107 : iI s17 107 = iI s 107 := fm_iq Fs17 rfl
    have ws17_12 : iI s17 12 = iI s 12 := fm_iq Fs17 rfl
    have ws17_89 : iI s17 89 = iI s 89 := fm_iq Fs17 rfl
    show WS k 1732 [(0, .ref q1), (1, .ref (A 0)), (2, .ref (A 179)), (3, .ref (A 517)), (4, .int (Int32.ofInt i))] [.int (Int32.ofInt e18)] (Wd A dT s17) (ce + 2) (sl + 12)
    refine z_store X (lv' := [(5, .int (Int32.ofInt e18)), (0, .ref q1), (1, .ref (A 0)), (2, .ref (A 179)), (3, .ref (A 517)), (4, .int (Int32.ofInt i))]) rfl (by decide) (fun _ h => h) (z_aload_n X (x := A 179) rfl (List.Mem.tail _ (List.Mem.tail _ (List.Mem.tail _ (List.Mem.head _)))) (z_aload_n X (x := q1) rfl (List.Mem.tail _ (List.Mem.head _)) (z_load X (x := i) rfl (List.Mem.tail _ (List.Mem.tail _ (List.Mem.tail _ (List.Mem.tail _ (List.Mem.tail _ (List.Mem.head _)))))) (z_const X rfl (z_add X rfl (z_sld X S hL rfl (show 0 ≤ (i + 1) ∧ (i + 1) < (L : Int) by first | exact sx_in hi (by decide) | omega) ?_))))))
    have sr19 : rng (sc xs (i + 1)) := sc_rng
    refine z_aload_n X (x := q1) rfl (List.Mem.tail _ (List.Mem.head _)) (z_load X (x := i) rfl (List.Mem.tail _ (List.Mem.tail _ (List.Mem.tail _ (List.Mem.tail _ (List.Mem.tail _ (List.Mem.head _)))))) (z_const X rfl (z_add X rfl (z_sld X S hL rfl (show 0 ≤ (i + 2) ∧ (i + 2) < (L : Int) by first | exact sx_in hi (by decide) | omega) ?_))))
    have sr20 : rng (sc xs (i + 2)) := sc_rng
    refine z_aload_n X (x := q1) rfl (List.Mem.tail _ (List.Mem.head _)) (z_load X (x := i) rfl (List.Mem.tail _ (List.Mem.tail _ (List.Mem.tail _ (List.Mem.tail _ (List.Mem.tail _ (List.Mem.head _)))))) (z_const X rfl (z_add X rfl (z_sld X S hL rfl (show 0 ≤ (i + 3) ∧ (i + 3) < (L : Int) by first | exact sx_in hi (by decide) | omega) ?_))))
    have sr21 : rng (sc xs (i + 3)) := sc_rng
    refine z_aload_n X (x := q1) rfl (List.Mem.tail _ (List.Mem.head _)) (z_load X (x := i) rfl (List.Mem.tail _ (List.Mem.tail _ (List.Mem.tail _ (List.Mem.tail _ (List.Mem.tail _ (List.Mem.head _)))))) (z_const X rfl (z_add X rfl (z_sld X S hL rfl (show 0 ≤ (i + 4) ∧ (i + 4) < (L : Int) by first | exact sx_in hi (by decide) | omega) ?_))))
    have sr22 : rng (sc xs (i + 4)) := sc_rng
    have N23 : ∀ e24 : Int, ((((sc xs (i + 4)) = 0) ∧ e24 = 0) ∨ (((sc xs (i + 4)) ≠ 0) ∧ e24 = 1)) → WS k 1767 [(5, .int (Int32.ofInt e18)), (0, .ref q1), (1, .ref (A 0)), (2, .ref (A 179)), (3, .ref (A 517)), (4, .int (Int32.ofInt i))] [.int (Int32.ofInt e24), .int (Int32.ofInt (sc xs (i + 3))), .int (Int32.ofInt (sc xs (i + 2))), .int (Int32.ofInt (sc xs (i + 1))), .ref (A 179)] (Wd A dT s17) (ce + 2) (sl + 12) := by
      intro e24 he24
      have re24 : 0 ≤ e24 ∧ e24 ≤ 1 := by first | (clear he24 he16; omega) | (clear he16; omega) | omega
      refine z_callV X 179 (rm := rmN 290) (As := [.int (Int32.ofInt (sc xs (i + 1))), .int (Int32.ofInt (sc xs (i + 2))), .int (Int32.ofInt (sc xs (i + 3))), .int (Int32.ofInt e24)]) (st := []) rfl rfl (by decide) rfl (by rw [E.1, E.2.1, E.2.2.1]; exact k_lead G Is17 JRLx_s17 (by first | exact ⟨sr19.1, sr19.2⟩ | omega) (by first | exact ⟨sr20.1, sr20.2⟩ | omega) (by first | exact ⟨sr21.1, sr21.2⟩ | omega) (by first | exact oq_54ac7134 re24.2 re24.1 he24 | omega)) ⟨by rw [E.2.2.2]; exact (show 37 + 1 ≤ 2048 from oq_2596b3cb), by rw [E.2.2.2]; exact (show 8 + (10 + 11) + 1578 ≤ 84000 from oq_d572abc1), by rw [E.2.2.2]; exact (show (ce + 2) + 1 ≤ 601024 by first | (clear he24 he16; omega) | (clear he16; omega) | omega), by rw [E.2.2.2]; exact (show (sl + 12) + 12 ≤ 7293034 by first | (clear he24 he16; omega) | (clear he16; omega) | omega)⟩ (Nat.le_of_ble_eq_true rfl) (fun vv s25 hq => ?_) (fun ee s25 hq => ?_)
      rotate_left
      · obtain ⟨Is25, Fs25, JRLx_s25, e26, hv, hrs25, hps25⟩ := hq; cases hv
      obtain ⟨Is25, Fs25, JRLx_s25, e26, hv, hrs25, hps25⟩ := hq
      cases hv
      have JRLx_s25 : RLx s25 := RLx_fm Fs25 (by decide) JRLx_s17
      have JFEQ_s25 : FEQ s25 := FEQ_fm Fs25 (by decide) JFEQ_s17
      have JRWJ_s25 : RWJ s25 := RWJ_fm Fs25 (by decide +kernel) JRWJ_s17
      have JFTK_s25 : FTK s25 := FTK_fm Fs25 (by decide) JFTK_s17
      have JARJ_s25 : ARJ s25 := ARJ_fm Fs25 ⟨by decide +kernel, by decide +kernel, by decide +kernel, by decide +kernel, by decide +kernel, by decide +kernel, by decide +kernel, by decide +kernel⟩ JARJ_s17
      have JPTJ_s25 : PTJ s25 := PTJ_fm Fs25 (by decide +kernel) JPTJ_s17
      have ws25_0 : iI s25 0 = iI s17 0 := fm_iq Fs25 rfl
      have ws25_74 : iI s25 74 = iI s17 74 := fm_iq Fs25 rfl
      have ws25_9 : iI s25 9 = iI s17 9 := fm_iq Fs25 rfl
      have ws25_90 : iI s25 90 = iI s17 90 := fm_iq Fs25 rfl
      have ws25_20 : iI s25 20 = iI s17 20 := fm_iq Fs25 rfl
      have ws25_98 : iI s25 98 = iI s17 98 := fm_iq Fs25 rfl
      have ws25_70 : iI s25 70 = iI s17 70 := fm_iq Fs25 rfl
      have ws25_107 : iI s25 107 = iI s17 107 := fm_iq Fs25 rfl
      have ws25_12 : iI s25 12 = iI s17 12 := fm_iq Fs25 rfl
      have ws25_89 : iI s25 89 = iI s17 89 := fm_iq Fs25 rfl
      have wos25 : iO s25 = iO s17 := fm_o Fs25 (by decide)
      show WS k 1770 [(5, .int (Int32.ofInt e18)), (0, .ref q1), (1, .ref (A 0)), (2, .ref (A 179)), (3, .ref (A 517)), (4, .int (Int32.ofInt i))] [.int (Int32.ofInt e26)] (Wd A dT s25) ((ce + 2) + 1) ((sl + 12) + 12)
      refine z_store X (lv' := [(6, .int (Int32.ofInt e26)), (5, .int (Int32.ofInt e18)), (0, .ref q1), (1, .ref (A 0)), (2, .ref (A 179)), (3, .ref (A 517)), (4, .int (Int32.ofInt i))]) rfl (by decide) (fun _ h => h) (z_goto X (t := 1894) rfl rfl (w_widen (ce' := ce + 29) (sl' := sl + 222) (by first | exact Nat.le_add_right _ _ | exact Nat.add_le_add_left (by decide) _ | omega) (by first | exact Nat.le_add_right _ _ | exact Nat.add_le_add_left (by decide) _ | omega) ?_))
      exact WS_lv (lv := [(0, .ref q1), (1, .ref (A 0)), (2, .ref (A 179)), (3, .ref (A 517)), (4, .int (Int32.ofInt i))]) (List.forall_mem_cons.mpr ⟨(List.Mem.tail _ (List.Mem.tail _ (List.Mem.head _))), (List.forall_mem_cons.mpr ⟨(List.Mem.tail _ (List.Mem.tail _ (List.Mem.tail _ (List.Mem.head _)))), (List.forall_mem_cons.mpr ⟨(List.Mem.tail _ (List.Mem.tail _ (List.Mem.tail _ (List.Mem.tail _ (List.Mem.head _))))), (List.forall_mem_cons.mpr ⟨(List.Mem.tail _ (List.Mem.tail _ (List.Mem.tail _ (List.Mem.tail _ (List.Mem.tail _ (List.Mem.head _)))))), (List.forall_mem_cons.mpr ⟨(List.Mem.tail _ (List.Mem.tail _ (List.Mem.tail _ (List.Mem.tail _ (List.Mem.tail _ (List.Mem.tail _ (List.Mem.head _))))))), (fun q h => absurd h List.not_mem_nil)⟩)⟩)⟩)⟩)⟩) (hk A _ Is25 JRLx_s25 JFEQ_s25 JRWJ_s25 JFTK_s25 JARJ_s25 JPTJ_s25 (by first | exact oq_f34933ba ws25_89 ws17_89 p1 b10.1 | omega) (by first | exact oq_d7ce4408 ws25_12 ws17_12 p2 | omega) (by first | exact oq_5bcdc35f ws25_74 ws25_0 ws17_74 ws17_0 p3 | omega) (by first | exact oq_5bcdc35f ws25_90 ws25_9 ws17_90 ws17_9 p4 | omega) (by first | exact oq_5bcdc35f ws25_98 ws25_20 ws17_98 ws17_20 p5 | omega) (by first | exact oq_5bcdc35f ws25_107 ws25_70 ws17_107 ws17_70 p6 | omega))
    refine z_if_eq X (t := 1766) rfl rfl ⟨by first | exact sr22.1 | omega, by first | exact sr22.2 | omega⟩ (fun g27 => ?_) (fun g27 => ?_)
    ·
      exact z_const X rfl (N23 _ (Or.inl ⟨g27, rfl⟩))
    ·
      exact z_const X rfl (z_goto X (t := 1767) rfl rfl (N23 _ (Or.inr (⟨g27, rfl⟩))))
  refine z_if_eq X (t := 1727) rfl rfl ⟨by first | exact sr14.1 | omega, by first | exact sr14.2 | omega⟩ (fun g28 => ?_) (fun g28 => ?_)
  ·
    exact z_const X rfl (N15 _ (Or.inl ⟨g28, rfl⟩))
  ·
    exact z_const X rfl (z_goto X (t := 1728) rfl rfl (N15 _ (Or.inr (⟨g28, rfl⟩))))
theorem lc_39 (G : GX l s0 D tys a0 dT) (GR : RS0 s0) (SF : SF0 s0) (GT : TXs0 s0) (GW : TXw0 s0) {k : kx_T} (X : AX k 350 dT) (E : kL k = l ∧ kS0 k = s0 ∧ kD k = D ∧ kR k = room_1) {q1 L : Nat} {xs : Nat → Int32} (S : SX k q1 L xs) (hL : L ≤ 3072) (I : Bd s) (jR : RLx s) (jFEQ : FEQ s) (jRWJ : RWJ s) (jFTK : FTK s) (jARJ : ARJ s) (jPTJ : PTJ s) (p1 : iI s 89 = 1) (p2 : iI s 12 ≤ 8) (p3 : iI s 0 = iI s 74) (p4 : iI s 9 = iI s 90) (p5 : iI s 20 = iI s 98) (p6 : iI s 70 = iI s 107) {i : Int} (hi : 0 ≤ i ∧ i + 6 ≤ (L : Int)) {ce sl : Nat} (hce : ce + 29 ≤ 601024) (hsl : sl + 222 ≤ 7293034) (hk : ∀ (A : Nat → Nat) (t : PS), Bd t → RLx t → FEQ t → RWJ t → FTK t → ARJ t → PTJ t → iI t 89 = 1 → iI t 12 ≤ 8 → iI t 0 = iI t 74 → iI t 9 = iI t 90 → iI t 20 = iI t 98 → iI t 70 = iI t 107 → WS k 1894 [(0, .ref q1), (1, .ref (A 0)), (2, .ref (A 179)), (3, .ref (A 517)), (4, .int (Int32.ofInt i))] [] (Wd A dT t) (ce + 29) (sl + 222)) : WS k 1775 [(0, .ref q1), (1, .ref (A 0)), (2, .ref (A 179)), (3, .ref (A 517)), (4, .int (Int32.ofInt i))] [] (Wd A dT s) ce sl := by
  have F : Fm [22, 23, 24, 73, 77, 75, 78, 79, 80, 81] [33, 26, 27, 28, 29, 30, 31, 32, 20, 36, 37, 35, 21, 1022, 1023, 1460, 202, 204, 205, 206, 207, 208, 209, 210, 211, 212, 213, 214, 215, 216, 217, 218, 219, 220, 221, 222, 223, 224, 225, 226, 227, 203, 161, 230, 233, 228] s s := fm_rf _ _ s
  have b1 := bi_0 I
  have b2 := bi_74 I
  have b3 := bi_9 I
  have b4 := bi_90 I
  have b5 := bi_20 I
  have b6 := bi_98 I
  have b7 := bi_70 I
  have b8 := bi_107 I
  have b9 := bi_12 I
  have b10 := bi_89 I
  refine z_aload_n X (x := A 0) rfl (List.Mem.tail _ (List.Mem.head _)) (z_aload_n X (x := q1) rfl (List.Mem.head _) (z_load X (x := i) rfl (List.Mem.tail _ (List.Mem.tail _ (List.Mem.tail _ (List.Mem.tail _ (List.Mem.head _))))) (z_const X rfl (z_add X rfl (z_sld X S hL rfl (show 0 ≤ (i + 1) ∧ (i + 1) < (L : Int) by first | exact sx_in hi (by decide) | omega) ?_)))))
  have sr11 : rng (sc xs (i + 1)) := sc_rng
  refine z_aload_n X (x := q1) rfl (List.Mem.head _) (z_load X (x := i) rfl (List.Mem.tail _ (List.Mem.tail _ (List.Mem.tail _ (List.Mem.tail _ (List.Mem.head _))))) (z_const X rfl (z_add X rfl (z_sld X S hL rfl (show 0 ≤ (i + 2) ∧ (i + 2) < (L : Int) by first | exact sx_in hi (by decide) | omega) ?_))))
  have sr12 : rng (sc xs (i + 2)) := sc_rng
  refine z_aload_n X (x := A 517) rfl (List.Mem.tail _ (List.Mem.tail _ (List.Mem.tail _ (List.Mem.head _)))) ?_
  obtain ⟨U, hU1, hU2, hU3⟩ := air_U jARJ.2.2.2.2.2.1 jARJ.1 jARJ.2.1 jARJ.2.2.1 jARJ.2.2.2.2.1 jARJ.2.2.2.2.2.2.2 (by omega) (by omega)
  refine z_callL X (rm := rmN 348) (As := [.ref (A 0), .int (Int32.ofInt (sc xs (i + 1))), .int (Int32.ofInt (sc xs (i + 2))), .ref (A 517)]) (st := []) rfl (by decide) rfl (by rw [E.1, E.2.1, E.2.2.1]; exact lw_worth6 G I jARJ.2.2.2.2.2.1 jARJ.2.2.2.2.2.2.1 hU1 jPTJ.1 (by omega) (by omega)) ⟨by rw [E.2.2.2]; exact (show 13 + 1 ≤ 2048 by decide), by rw [E.2.2.2]; exact (show 8 + (5 + 11) + 262 ≤ 84000 by decide), by rw [E.2.2.2]; exact (show ce + 3 ≤ 601024 by first | exact rmo_1 hce (by decide) | exact rmo_2 hce (by decide) | omega), by rw [E.2.2.2]; exact (show sl + 18 ≤ 7293034 by first | exact rmo_1 hsl (by decide) | exact rmo_2 hsl (by decide) | omega)⟩ (Nat.le_of_ble_eq_true rfl) (fun vv A s13 hA2 hq => ?_) (fun ee A s13 hA2 hq => ?_)
  rotate_left
  · obtain ⟨Is13, Fs13, JPMJ_s13, e14, hv, hrs13, hps13⟩ := hq; cases hv
  obtain ⟨Is13, Fs13, JPMJ_s13, e14, hv, hrs13, hps13⟩ := hq
  cases hv
  rw [← hA2 0 (by decide)]
  rw [← hA2 179 (by decide)]
  rw [← hA2 517 (by decide)]
  have JRLx_s13 : RLx s13 := RLx_fm Fs13 (by decide) jR
  have JFEQ_s13 : FEQ s13 := FEQ_fm Fs13 (by decide) jFEQ
  have JRWJ_s13 : RWJ s13 := RWJ_fm Fs13 (by decide +kernel) jRWJ
  have JFTK_s13 : FTK s13 := FTK_fm Fs13 (by decide) jFTK
  have JARJ_s13 : ARJ s13 := ARJ_fm Fs13 ⟨by decide +kernel, by decide +kernel, by decide +kernel, by decide +kernel, by decide +kernel, by decide +kernel, by decide +kernel, by decide +kernel⟩ jARJ
  have JALJ_s13 : AEQ 24 229 8 s13 := ALJ_fm Fs13 (by decide) jPTJ.2.2.1
  have JMKJ_s13 : MKJ s13 := MKJ_fm Fs13 (by decide +kernel) jPTJ.2.2.2
  have JMDJ_s13 : MDJ U s13 := MDJ_fm Fs13 (by decide +kernel) hU2
  have ws13_0 : iI s13 0 = iI s 0 := fm_iq Fs13 rfl
  have ws13_74 : iI s13 74 = iI s 74 := fm_iq Fs13 rfl
  have ws13_9 : iI s13 9 = iI s 9 := fm_iq Fs13 rfl
  have ws13_90 : iI s13 90 = iI s 90 := fm_iq Fs13 rfl
  have ws13_20 : iI s13 20 = iI s 20 := fm_iq Fs13 rfl
  have ws13_98 : iI s13 98 = iI s 98 := fm_iq Fs13 rfl
  have ws13_70 : iI s13 70 = iI s 70 := fm_iq Fs13 rfl
  have ws13_107 : iI s13 107 = iI s 107 := fm_iq Fs13 rfl
  have ws13_12 : iI s13 12 = iI s 12 := fm_iq Fs13 rfl
  have ws13_89 : iI s13 89 = iI s 89 := fm_iq Fs13 rfl
  show WS k 1792 [(0, .ref q1), (1, .ref (A 0)), (2, .ref (A 179)), (3, .ref (A 517)), (4, .int (Int32.ofInt i))] [.int (Int32.ofInt e14)] (Wd A dT s13) (ce + 3) (sl + 18)
  refine z_store X (lv' := [(5, .int (Int32.ofInt e14)), (0, .ref q1), (1, .ref (A 0)), (2, .ref (A 179)), (3, .ref (A 517)), (4, .int (Int32.ofInt i))]) rfl (by decide) (fun _ h => h) (z_aload_n X (x := A 179) rfl (List.Mem.tail _ (List.Mem.tail _ (List.Mem.tail _ (List.Mem.head _)))) (z_aload_n X (x := q1) rfl (List.Mem.tail _ (List.Mem.head _)) (z_load X (x := i) rfl (List.Mem.tail _ (List.Mem.tail _ (List.Mem.tail _ (List.Mem.tail _ (List.Mem.tail _ (List.Mem.head _)))))) (z_const X rfl (z_add X rfl (z_sld X S hL rfl (show 0 ≤ (i + 1) ∧ (i + 1) < (L : Int) by first | exact sx_in hi (by decide) | omega) ?_))))))
  have sr15 : rng (sc xs (i + 1)) := sc_rng
  refine z_aload_n X (x := q1) rfl (List.Mem.tail _ (List.Mem.head _)) (z_load X (x := i) rfl (List.Mem.tail _ (List.Mem.tail _ (List.Mem.tail _ (List.Mem.tail _ (List.Mem.tail _ (List.Mem.head _)))))) (z_const X rfl (z_add X rfl (z_sld X S hL rfl (show 0 ≤ (i + 2) ∧ (i + 2) < (L : Int) by first | exact sx_in hi (by decide) | omega) ?_))))
  have sr16 : rng (sc xs (i + 2)) := sc_rng
  refine z_callV X 179 (rm := rmN 291) (As := [.int (Int32.ofInt (sc xs (i + 1))), .int (Int32.ofInt (sc xs (i + 2)))]) (st := []) rfl rfl (by decide) rfl (by rw [E.1, E.2.1, E.2.2.1]; exact k_worth6 G Is13 JRLx_s13 JMDJ_s13 (by first | exact ⟨sr15.1, sr15.2⟩ | omega) (by first | exact ⟨sr16.1, sr16.2⟩ | omega) (by first | exact oq_b44a1c7f ws13_89 p1 b10.1 | omega)) ⟨by rw [E.2.2.2]; exact (show 41 + 1 ≤ 2048 from oq_2c2f0271), by rw [E.2.2.2]; exact (show 8 + (6 + 11) + 1663 ≤ 84000 from oq_b102b2ee), by rw [E.2.2.2]; exact (show (ce + 3) + 0 ≤ 601024 by first | (clear hps13; omega) | omega), by rw [E.2.2.2]; exact (show (sl + 18) + 0 ≤ 7293034 by first | (clear hps13; omega) | omega)⟩ (Nat.le_of_ble_eq_true rfl) (fun vv s17 hq => ?_) (fun ee s17 hq => ?_)
  rotate_left
  · obtain ⟨Is17, Fs17, JRLx_s17, e18, hv, hrs17, hps17⟩ := hq; cases hv
  obtain ⟨Is17, Fs17, JRLx_s17, e18, hv, hrs17, hps17⟩ := hq
  cases hv
  have JRLx_s17 : RLx s17 := RLx_fm Fs17 (by decide) JRLx_s13
  have JFEQ_s17 : FEQ s17 := FEQ_fm Fs17 (by decide) JFEQ_s13
  have JRWJ_s17 : RWJ s17 := RWJ_fm Fs17 (by decide +kernel) JRWJ_s13
  have JFTK_s17 : FTK s17 := FTK_fm Fs17 (by decide) JFTK_s13
  have JARJ_s17 : ARJ s17 := ARJ_fm Fs17 ⟨by decide +kernel, by decide +kernel, by decide +kernel, by decide +kernel, by decide +kernel, by decide +kernel, by decide +kernel, by decide +kernel⟩ JARJ_s13
  have JALJ_s17 : AEQ 24 229 8 s17 := ALJ_fm Fs17 (by decide) JALJ_s13
  have JMKJ_s17 : MKJ s17 := MKJ_fm Fs17 (by decide +kernel) JMKJ_s13
  have JPMJ_s17 : PMJ s17 := PMJ_fm Fs17 (by decide +kernel) JPMJ_s13
  have ws17_0 : iI s17 0 = iI s13 0 := fm_iq Fs17 rfl
  have ws17_74 : iI s17 74 = iI s13 74 := fm_iq Fs17 rfl
  have ws17_9 : iI s17 9 = iI s13 9 := fm_iq Fs17 rfl
  have ws17_90 : iI s17 90 = iI s13 90 := fm_iq Fs17 rfl
  have ws17_20 : iI s17 20 = iI s13 20 := fm_iq Fs17 rfl
  have ws17_98 : iI s17 98 = iI s13 98 := fm_iq Fs17 rfl
  have ws17_70 : iI s17 70 = iI s13 70 := fm_iq Fs17 rfl
  have ws17_107 : iI s17 107 = iI s13 107 := fm_iq Fs17 rfl
  have ws17_12 : iI s17 12 = iI s13 12 := fm_iq Fs17 rfl
  have ws17_89 : iI s17 89 = iI s13 89 := fm_iq Fs17 rfl
  have wos17 : iO s17 = iO s13 := fm_o Fs17 (by decide)
  show WS k 1810 [(5, .int (Int32.ofInt e14)), (0, .ref q1), (1, .ref (A 0)), (2, .ref (A 179)), (3, .ref (A 517)), (4, .int (Int32.ofInt i))] [.int (Int32.ofInt e18)] (Wd A dT s17) (ce + 3) (sl + 18)
  have hq9 : 0 ≤ sc xs (i + 1) ∧ sc xs (i + 1) ≤ 127 → iC s 21 (sc xs (i + 1)).toNat = iC s13 228 (sc xs (i + 1)).toNat := fun h => aeq_at jPTJ.2.1 (sam_fm Fs13 (by decide +kernel)) (by first | (clear hps17 hps13; omega) | (clear hps13; omega) | omega)
  rcases hps13 with cc | cc
  ·
    rcases hps17 with mm | mm
    ·
      have rq19 := wre_eq (u_wok jARJ.2.2.2.2.2.1 hU1) (fun j hj => (jPTJ.2.1 j hj).trans ((sam_fm Fs13 (by decide +kernel) : SAM 228 _ _) j).symm) cc.2.2.2.2.2.2.2.2 mm.2.2.2.2.2.2.2.2
      have jb20 : PTJ s17 := ⟨JPMJ_s17, aeq_sam jPTJ.2.1 (sam_ts cc.2.2.2.2.2.2.2.1 (sam_fm Fs17 (by decide +kernel))) (sam_ts (sam_fm Fs13 (by decide +kernel)) mm.2.2.2.2.2.2.2.1), JALJ_s17, JMKJ_s17⟩
      refine z_store X (lv' := [(6, .int (Int32.ofInt e18)), (5, .int (Int32.ofInt e14)), (0, .ref q1), (1, .ref (A 0)), (2, .ref (A 179)), (3, .ref (A 517)), (4, .int (Int32.ofInt i))]) rfl (by decide) (fun _ h => h) (z_goto X (t := 1894) rfl rfl (w_widen (ce' := ce + 29) (sl' := sl + 222) (by first | exact Nat.le_add_right _ _ | exact Nat.add_le_add_left (by decide) _ | omega) (by first | exact Nat.le_add_right _ _ | exact Nat.add_le_add_left (by decide) _ | omega) ?_))
      exact WS_lv (lv := [(0, .ref q1), (1, .ref (A 0)), (2, .ref (A 179)), (3, .ref (A 517)), (4, .int (Int32.ofInt i))]) (List.forall_mem_cons.mpr ⟨(List.Mem.tail _ (List.Mem.tail _ (List.Mem.head _))), (List.forall_mem_cons.mpr ⟨(List.Mem.tail _ (List.Mem.tail _ (List.Mem.tail _ (List.Mem.head _)))), (List.forall_mem_cons.mpr ⟨(List.Mem.tail _ (List.Mem.tail _ (List.Mem.tail _ (List.Mem.tail _ (List.Mem.head _))))), (List.forall_mem_cons.mpr ⟨(List.Mem.tail _ (List.Mem.tail _ (List.Mem.tail _ (List.Mem.tail _ (List.Mem.tail _ (List.Mem.head _)))))), (List.forall_mem_cons.mpr ⟨(List.Mem.tail _ (List.Mem.tail _ (List.Mem.tail _ (List.Mem.tail _ (List.Mem.tail _ (List.Mem.tail _ (List.Mem.head _))))))), (fun q h => absurd h List.not_mem_nil)⟩)⟩)⟩)⟩)⟩) (hk A _ Is17 JRLx_s17 JFEQ_s17 JRWJ_s17 JFTK_s17 JARJ_s17 jb20 (by first | exact oq_f34933ba ws17_89 ws13_89 p1 b10.1 | omega) (by first | exact oq_d7ce4408 ws17_12 ws13_12 p2 | omega) (by first | exact oq_5bcdc35f ws17_74 ws17_0 ws13_74 ws13_0 p3 | omega) (by first | exact oq_5bcdc35f ws17_90 ws17_9 ws13_90 ws13_9 p4 | omega) (by first | exact oq_5bcdc35f ws17_98 ws17_20 ws13_98 ws13_20 p5 | omega) (by first | exact oq_5bcdc35f ws17_107 ws17_70 ws13_107 ws13_70 p6 | omega))
    ·
      exfalso
      omega
  ·
    rcases hps17 with mm | mm
    ·
      exfalso
      omega
    ·
      have jb21 : PTJ s17 := ⟨JPMJ_s17, aeq_sam jPTJ.2.1 (sam_ts cc.2 (sam_fm Fs17 (by decide +kernel))) (sam_ts (sam_fm Fs13 (by decide +kernel)) mm.2), JALJ_s17, JMKJ_s17⟩
      refine z_store X (lv' := [(6, .int (Int32.ofInt e18)), (5, .int (Int32.ofInt e14)), (0, .ref q1), (1, .ref (A 0)), (2, .ref (A 179)), (3, .ref (A 517)), (4, .int (Int32.ofInt i))]) rfl (by decide) (fun _ h => h) (z_goto X (t := 1894) rfl rfl (w_widen (ce' := ce + 29) (sl' := sl + 222) (by first | exact Nat.le_add_right _ _ | exact Nat.add_le_add_left (by decide) _ | omega) (by first | exact Nat.le_add_right _ _ | exact Nat.add_le_add_left (by decide) _ | omega) ?_))
      exact WS_lv (lv := [(0, .ref q1), (1, .ref (A 0)), (2, .ref (A 179)), (3, .ref (A 517)), (4, .int (Int32.ofInt i))]) (List.forall_mem_cons.mpr ⟨(List.Mem.tail _ (List.Mem.tail _ (List.Mem.head _))), (List.forall_mem_cons.mpr ⟨(List.Mem.tail _ (List.Mem.tail _ (List.Mem.tail _ (List.Mem.head _)))), (List.forall_mem_cons.mpr ⟨(List.Mem.tail _ (List.Mem.tail _ (List.Mem.tail _ (List.Mem.tail _ (List.Mem.head _))))), (List.forall_mem_cons.mpr ⟨(List.Mem.tail _ (List.Mem.tail _ (List.Mem.tail _ (List.Mem.tail _ (List.Mem.tail _ (List.Mem.head _)))))), (List.forall_mem_cons.mpr ⟨(List.Mem.tail _ (List.Mem.tail _ (List.Mem.tail _ (List.Mem.tail _ (List.Mem.tail _ (List.Mem.tail _ (List.Mem.head _))))))), (fun q h => absurd h List.not_mem_nil)⟩)⟩)⟩)⟩)⟩) (hk A _ Is17 JRLx_s17 JFEQ_s17 JRWJ_s17 JFTK_s17 JARJ_s17 jb21 (by first | exact oq_f34933ba ws17_89 ws13_89 p1 b10.1 | omega) (by first | exact oq_d7ce4408 ws17_12 ws13_12 p2 | omega) (by first | exact oq_5bcdc35f ws17_74 ws17_0 ws13_74 ws13_0 p3 | omega) (by first | exact oq_5bcdc35f ws17_90 ws17_9 ws13_90 ws13_9 p4 | omega) (by first | exact oq_5bcdc35f ws17_98 ws17_20 ws13_98 ws13_20 p5 | omega) (by first | exact oq_5bcdc35f ws17_107 ws17_70 ws13_107 ws13_70 p6 | omega))
theorem lc_40 (G : GX l s0 D tys a0 dT) (GR : RS0 s0) (SF : SF0 s0) (GT : TXs0 s0) (GW : TXw0 s0) {k : kx_T} (X : AX k 350 dT) (E : kL k = l ∧ kS0 k = s0 ∧ kD k = D ∧ kR k = room_1) {q1 L : Nat} {xs : Nat → Int32} (S : SX k q1 L xs) (hL : L ≤ 3072) (I : Bd s) (jR : RLx s) (jFEQ : FEQ s) (jRWJ : RWJ s) (jFTK : FTK s) (jARJ : ARJ s) (jPTJ : PTJ s) (p1 : iI s 89 = 1) (p2 : iI s 12 ≤ 8) (p3 : iI s 0 = iI s 74) (p4 : iI s 9 = iI s 90) (p5 : iI s 20 = iI s 98) (p6 : iI s 70 = iI s 107) {i : Int} (hi : 0 ≤ i ∧ i + 6 ≤ (L : Int)) {ce sl : Nat} (hce : ce + 29 ≤ 601024) (hsl : sl + 222 ≤ 7293034) (hk : ∀ (A : Nat → Nat) (t : PS), Bd t → RLx t → FEQ t → RWJ t → FTK t → ARJ t → PTJ t → iI t 89 = 1 → iI t 12 ≤ 8 → iI t 0 = iI t 74 → iI t 9 = iI t 90 → iI t 20 = iI t 98 → iI t 70 = iI t 107 → WS k 1894 [(0, .ref q1), (1, .ref (A 0)), (2, .ref (A 179)), (3, .ref (A 517)), (4, .int (Int32.ofInt i))] [] (Wd A dT t) (ce + 29) (sl + 222)) : WS k 1815 [(0, .ref q1), (1, .ref (A 0)), (2, .ref (A 179)), (3, .ref (A 517)), (4, .int (Int32.ofInt i))] [] (Wd A dT s) ce sl := by
  have F : Fm [73] [1460] s s := fm_rf _ _ s
  have b1 := bi_0 I
  have b2 := bi_74 I
  have b3 := bi_9 I
  have b4 := bi_90 I
  have b5 := bi_20 I
  have b6 := bi_98 I
  have b7 := bi_70 I
  have b8 := bi_107 I
  have b9 := bi_12 I
  have b10 := bi_89 I
  refine z_aload_n X (x := A 0) rfl (List.Mem.tail _ (List.Mem.head _)) (z_aload_n X (x := q1) rfl (List.Mem.head _) (z_load X (x := i) rfl (List.Mem.tail _ (List.Mem.tail _ (List.Mem.tail _ (List.Mem.tail _ (List.Mem.head _))))) (z_const X rfl (z_add X rfl (z_sld X S hL rfl (show 0 ≤ (i + 1) ∧ (i + 1) < (L : Int) by first | exact sx_in hi (by decide) | omega) ?_)))))
  have sr11 : rng (sc xs (i + 1)) := sc_rng
  refine z_aload_n X (x := A 517) rfl (List.Mem.tail _ (List.Mem.tail _ (List.Mem.tail _ (List.Mem.head _)))) (z_callL X (rm := rmN 349) (As := [.ref (A 0), .int (Int32.ofInt (sc xs (i + 1))), .ref (A 517)]) (st := []) rfl (by decide) rfl (by rw [E.1, E.2.1, E.2.2.1]; exact lw_quiet G I (by omega)) ⟨by rw [E.2.2.2]; exact (show 9 + 1 ≤ 2048 by decide), by rw [E.2.2.2]; exact (show 8 + (4 + 11) + 166 ≤ 84000 by decide), by rw [E.2.2.2]; exact (show ce + 1 ≤ 601024 by first | exact rmo_1 hce (by decide) | exact rmo_2 hce (by decide) | omega), by rw [E.2.2.2]; exact (show sl + 6 ≤ 7293034 by first | exact rmo_1 hsl (by decide) | exact rmo_2 hsl (by decide) | omega)⟩ (Nat.le_of_ble_eq_true rfl) (fun vv A s12 hA2 hq => ?_) (fun ee A s12 hA2 hq => ?_))
  rotate_left
  · obtain ⟨Is12, Fs12, e13, hv, hrs12, hps12⟩ := hq; cases hv
  obtain ⟨Is12, Fs12, e13, hv, hrs12, hps12⟩ := hq
  cases hv
  rw [← hA2 0 (by decide)]
  rw [← hA2 179 (by decide)]
  rw [← hA2 517 (by decide)]
  have JRLx_s12 : RLx s12 := RLx_fm Fs12 (by decide) jR
  have JFEQ_s12 : FEQ s12 := FEQ_fm Fs12 (by decide) jFEQ
  have JRWJ_s12 : RWJ s12 := RWJ_fm Fs12 (by decide +kernel) jRWJ
  have JFTK_s12 : FTK s12 := FTK_fm Fs12 (by decide) jFTK
  have JARJ_s12 : ARJ s12 := ARJ_fm Fs12 ⟨by decide +kernel, by decide +kernel, by decide +kernel, by decide +kernel, by decide +kernel, by decide +kernel, by decide +kernel, by decide +kernel⟩ jARJ
  have JPTJ_s12 : PTJ s12 := PTJ_fm Fs12 (by decide +kernel) jPTJ
  have ws12_0 : iI s12 0 = iI s 0 := fm_iq Fs12 rfl
  have ws12_74 : iI s12 74 = iI s 74 := fm_iq Fs12 rfl
  have ws12_9 : iI s12 9 = iI s 9 := fm_iq Fs12 rfl
  have ws12_90 : iI s12 90 = iI s 90 := fm_iq Fs12 rfl
  have ws12_20 : iI s12 20 = iI s 20 := fm_iq Fs12 rfl
  have ws12_98 : iI s12 98 = iI s 98 := fm_iq Fs12 rfl
  have ws12_70 : iI s12 70 = iI s 70 := fm_iq Fs12 rfl
  have ws12_107 : iI s12 107 = iI s 107 := fm_iq Fs12 rfl
  have ws12_12 : iI s12 12 = iI s 12 := fm_iq Fs12 rfl
  have ws12_89 : iI s12 89 = iI s 89 := fm_iq Fs12 rfl
  show WS k 1826 [(0, .ref q1), (1, .ref (A 0)), (2, .ref (A 179)), (3, .ref (A 517)), (4, .int (Int32.ofInt i))] [.int (Int32.ofInt e13)] (Wd A dT s12) (ce + 1) (sl + 6)
  refine z_store X (lv' := [(5, .int (Int32.ofInt e13)), (0, .ref q1), (1, .ref (A 0)), (2, .ref (A 179)), (3, .ref (A 517)), (4, .int (Int32.ofInt i))]) rfl (by decide) (fun _ h => h) (z_aload_n X (x := A 179) rfl (List.Mem.tail _ (List.Mem.tail _ (List.Mem.tail _ (List.Mem.head _)))) (z_aload_n X (x := q1) rfl (List.Mem.tail _ (List.Mem.head _)) (z_load X (x := i) rfl (List.Mem.tail _ (List.Mem.tail _ (List.Mem.tail _ (List.Mem.tail _ (List.Mem.tail _ (List.Mem.head _)))))) (z_const X rfl (z_add X rfl (z_sld X S hL rfl (show 0 ≤ (i + 1) ∧ (i + 1) < (L : Int) by first | exact sx_in hi (by decide) | omega) ?_))))))
  have sr14 : rng (sc xs (i + 1)) := sc_rng
  refine z_callV X 179 (rm := rmN 292) (As := [.int (Int32.ofInt (sc xs (i + 1)))]) (st := []) rfl rfl (by decide) rfl (by rw [E.1, E.2.1, E.2.2.1]; exact k_quiet G Is12 (by first | exact ⟨sr14.1, sr14.2⟩ | omega)) ⟨by rw [E.2.2.2]; exact (show 7 + 1 ≤ 2048 from oq_4e6106eb), by rw [E.2.2.2]; exact (show 8 + (4 + 11) + 123 ≤ 84000 from oq_24286ecc), by rw [E.2.2.2]; exact (show (ce + 1) + 0 ≤ 601024 by omega), by rw [E.2.2.2]; exact (show (sl + 6) + 0 ≤ 7293034 by omega)⟩ (Nat.le_of_ble_eq_true rfl) (fun vv s15 hq => ?_) (fun ee s15 hq => ?_)
  rotate_left
  · obtain ⟨Is15, Fs15, e16, hv, hrs15, hps15⟩ := hq; cases hv
  obtain ⟨Is15, Fs15, e16, hv, hrs15, hps15⟩ := hq
  cases hv
  have JRLx_s15 : RLx s15 := RLx_fm Fs15 (by decide) JRLx_s12
  have JFEQ_s15 : FEQ s15 := FEQ_fm Fs15 (by decide) JFEQ_s12
  have JRWJ_s15 : RWJ s15 := RWJ_fm Fs15 (by decide +kernel) JRWJ_s12
  have JFTK_s15 : FTK s15 := FTK_fm Fs15 (by decide) JFTK_s12
  have JARJ_s15 : ARJ s15 := ARJ_fm Fs15 ⟨by decide +kernel, by decide +kernel, by decide +kernel, by decide +kernel, by decide +kernel, by decide +kernel, by decide +kernel, by decide +kernel⟩ JARJ_s12
  have JPTJ_s15 : PTJ s15 := PTJ_fm Fs15 (by decide +kernel) JPTJ_s12
  have ws15_0 : iI s15 0 = iI s12 0 := fm_iq Fs15 rfl
  have ws15_74 : iI s15 74 = iI s12 74 := fm_iq Fs15 rfl
  have ws15_9 : iI s15 9 = iI s12 9 := fm_iq Fs15 rfl
  have ws15_90 : iI s15 90 = iI s12 90 := fm_iq Fs15 rfl
  have ws15_20 : iI s15 20 = iI s12 20 := fm_iq Fs15 rfl
  have ws15_98 : iI s15 98 = iI s12 98 := fm_iq Fs15 rfl
  have ws15_70 : iI s15 70 = iI s12 70 := fm_iq Fs15 rfl
  have ws15_107 : iI s15 107 = iI s12 107 := fm_iq Fs15 rfl
  have ws15_12 : iI s15 12 = iI s12 12 := fm_iq Fs15 rfl
  have ws15_89 : iI s15 89 = iI s12 89 := fm_iq Fs15 rfl
  have wos15 : iO s15 = iO s12 := fm_o Fs15 (by decide)
  show WS k 1838 [(5, .int (Int32.ofInt e13)), (0, .ref q1), (1, .ref (A 0)), (2, .ref (A 179)), (3, .ref (A 517)), (4, .int (Int32.ofInt i))] [.int (Int32.ofInt e16)] (Wd A dT s15) (ce + 1) (sl + 6)
  refine z_store X (lv' := [(6, .int (Int32.ofInt e16)), (5, .int (Int32.ofInt e13)), (0, .ref q1), (1, .ref (A 0)), (2, .ref (A 179)), (3, .ref (A 517)), (4, .int (Int32.ofInt i))]) rfl (by decide) (fun _ h => h) (z_goto X (t := 1894) rfl rfl (w_widen (ce' := ce + 29) (sl' := sl + 222) (by first | exact Nat.le_add_right _ _ | exact Nat.add_le_add_left (by decide) _ | omega) (by first | exact Nat.le_add_right _ _ | exact Nat.add_le_add_left (by decide) _ | omega) ?_))
  exact WS_lv (lv := [(0, .ref q1), (1, .ref (A 0)), (2, .ref (A 179)), (3, .ref (A 517)), (4, .int (Int32.ofInt i))]) (List.forall_mem_cons.mpr ⟨(List.Mem.tail _ (List.Mem.tail _ (List.Mem.head _))), (List.forall_mem_cons.mpr ⟨(List.Mem.tail _ (List.Mem.tail _ (List.Mem.tail _ (List.Mem.head _)))), (List.forall_mem_cons.mpr ⟨(List.Mem.tail _ (List.Mem.tail _ (List.Mem.tail _ (List.Mem.tail _ (List.Mem.head _))))), (List.forall_mem_cons.mpr ⟨(List.Mem.tail _ (List.Mem.tail _ (List.Mem.tail _ (List.Mem.tail _ (List.Mem.tail _ (List.Mem.head _)))))), (List.forall_mem_cons.mpr ⟨(List.Mem.tail _ (List.Mem.tail _ (List.Mem.tail _ (List.Mem.tail _ (List.Mem.tail _ (List.Mem.tail _ (List.Mem.head _))))))), (fun q h => absurd h List.not_mem_nil)⟩)⟩)⟩)⟩)⟩) (hk A _ Is15 JRLx_s15 JFEQ_s15 JRWJ_s15 JFTK_s15 JARJ_s15 JPTJ_s15 (by first | exact oq_f34933ba ws15_89 ws12_89 p1 b10.1 | omega) (by first | exact oq_d7ce4408 ws15_12 ws12_12 p2 | omega) (by first | exact oq_5bcdc35f ws15_74 ws15_0 ws12_74 ws12_0 p3 | omega) (by first | exact oq_5bcdc35f ws15_90 ws15_9 ws12_90 ws12_9 p4 | omega) (by first | exact oq_5bcdc35f ws15_98 ws15_20 ws12_98 ws12_20 p5 | omega) (by first | exact oq_5bcdc35f ws15_107 ws15_70 ws12_107 ws12_70 p6 | omega))
theorem lc_41 (G : GX l s0 D tys a0 dT) (GR : RS0 s0) (SF : SF0 s0) (GT : TXs0 s0) (GW : TXw0 s0) {k : kx_T} (X : AX k 350 dT) (E : kL k = l ∧ kS0 k = s0 ∧ kD k = D ∧ kR k = room_1) {q1 L : Nat} {xs : Nat → Int32} (S : SX k q1 L xs) (hL : L ≤ 3072) (I : Bd s) (jR : RLx s) (jFEQ : FEQ s) (jRWJ : RWJ s) (jFTK : FTK s) (jARJ : ARJ s) (jPTJ : PTJ s) (p1 : iI s 89 = 1) (p2 : iI s 12 ≤ 8) (p3 : iI s 0 = iI s 74) (p4 : iI s 9 = iI s 90) (p5 : iI s 20 = iI s 98) (p6 : iI s 70 = iI s 107) {i : Int} (hi : 0 ≤ i ∧ i + 6 ≤ (L : Int)) {ce sl : Nat} (hce : ce + 29 ≤ 601024) (hsl : sl + 222 ≤ 7293034) (hk : ∀ (A : Nat → Nat) (t : PS), Bd t → RLx t → FEQ t → RWJ t → FTK t → ARJ t → PTJ t → iI t 89 = 1 → iI t 12 ≤ 8 → iI t 0 = iI t 74 → iI t 9 = iI t 90 → iI t 20 = iI t 98 → iI t 70 = iI t 107 → WS k 1894 [(0, .ref q1), (1, .ref (A 0)), (2, .ref (A 179)), (3, .ref (A 517)), (4, .int (Int32.ofInt i))] [] (Wd A dT t) (ce + 29) (sl + 222)) : WS k 1843 [(0, .ref q1), (1, .ref (A 0)), (2, .ref (A 179)), (3, .ref (A 517)), (4, .int (Int32.ofInt i))] [] (Wd A dT s) ce sl := by
  have F : Fm [20, 73, 98] [25, 241, 242, 243, 244] s s := fm_rf _ _ s
  have b1 := bi_0 I
  have b2 := bi_74 I
  have b3 := bi_9 I
  have b4 := bi_90 I
  have b5 := bi_20 I
  have b6 := bi_98 I
  have b7 := bi_70 I
  have b8 := bi_107 I
  have b9 := bi_12 I
  have b10 := bi_89 I
  refine z_aload_n X (x := A 0) rfl (List.Mem.tail _ (List.Mem.head _)) (z_callV X 0 (rm := rmN 176) (As := []) (st := []) rfl rfl (by decide) rfl (by rw [E.1, E.2.1, E.2.2.1]; exact cs_mark6 G I ) ⟨by rw [E.2.2.2]; exact (show 7 + 1 ≤ 2048 from oq_4e6106eb), by rw [E.2.2.2]; exact (show 8 + (1 + 11) + 120 ≤ 84000 from oq_23aa4b49), by rw [E.2.2.2]; exact (show ce + 0 ≤ 601024 by omega), by rw [E.2.2.2]; exact (show sl + 0 ≤ 7293034 by omega)⟩ (Nat.le_of_ble_eq_true rfl) (fun vv s11 hq => ?_) (fun ee s11 hq => ?_))
  rotate_left
  · obtain ⟨Is11, Fs11, e12, hv, hrs11, hps11⟩ := hq; cases hv
  obtain ⟨Is11, Fs11, e12, hv, hrs11, hps11⟩ := hq
  cases hv
  have JRLx_s11 : RLx s11 := RLx_fm Fs11 (by decide) jR
  have JFEQ_s11 : FEQ s11 := FEQ_fm Fs11 (by decide) jFEQ
  have JRWJ_s11 : RWJ s11 := RWJ_fm Fs11 (by decide +kernel) jRWJ
  have JFTK_s11 : FTK s11 := FTK_fm Fs11 (by decide) jFTK
  have JARJ_s11 : ARJ s11 := ARJ_fm Fs11 ⟨by decide +kernel, by decide +kernel, by decide +kernel, by decide +kernel, by decide +kernel, by decide +kernel, by decide +kernel, by decide +kernel⟩ jARJ
  have JPMJ_s11 : PMJ s11 := PMJ_fm Fs11 (by decide +kernel) jPTJ.1
  have JAPJ_s11 : AEQ 21 228 128 s11 := APJ_fm Fs11 (by decide) jPTJ.2.1
  have JALJ_s11 : AEQ 24 229 8 s11 := ALJ_fm Fs11 (by decide) jPTJ.2.2.1
  have ws11_0 : iI s11 0 = iI s 0 := fm_iq Fs11 rfl
  have ws11_74 : iI s11 74 = iI s 74 := fm_iq Fs11 rfl
  have ws11_9 : iI s11 9 = iI s 9 := fm_iq Fs11 rfl
  have ws11_90 : iI s11 90 = iI s 90 := fm_iq Fs11 rfl
  have b13 := bi_20 Is11
  have ws11_98 : iI s11 98 = iI s 98 := fm_iq Fs11 rfl
  have ws11_70 : iI s11 70 = iI s 70 := fm_iq Fs11 rfl
  have ws11_107 : iI s11 107 = iI s 107 := fm_iq Fs11 rfl
  have ws11_12 : iI s11 12 = iI s 12 := fm_iq Fs11 rfl
  have ws11_89 : iI s11 89 = iI s 89 := fm_iq Fs11 rfl
  have wos11 : iO s11 = iO s := fm_o Fs11 (by decide)
  show WS k 1847 [(0, .ref q1), (1, .ref (A 0)), (2, .ref (A 179)), (3, .ref (A 517)), (4, .int (Int32.ofInt i))] [.int (Int32.ofInt e12)] (Wd A dT s11) ce sl
  refine w_pop X.1 (ax_d X (show cdA 350 1847 = some (.pop, 1, 0, 0, 0) from rfl)) rfl (z_aload_n X (x := A 179) rfl (List.Mem.tail _ (List.Mem.tail _ (List.Mem.head _))) (z_callV X 179 (rm := rmN 293) (As := []) (st := []) rfl rfl (by decide) rfl (by rw [E.1, E.2.1, E.2.2.1]; exact k_mark6 G Is11 ) ⟨by rw [E.2.2.2]; exact (show 6 + 1 ≤ 2048 from oq_4d34cb53), by rw [E.2.2.2]; exact (show 8 + (2 + 11) + 100 ≤ 84000 from oq_8731b8c0), by rw [E.2.2.2]; exact (show ce + 0 ≤ 601024 by first | (clear hps11; omega) | omega), by rw [E.2.2.2]; exact (show sl + 0 ≤ 7293034 by first | (clear hps11; omega) | omega)⟩ (Nat.le_of_ble_eq_true rfl) (fun vv s14 hq => ?_) (fun ee s14 hq => ?_)))
  rotate_left
  · obtain ⟨Is14, Fs14, e15, hv, hrs14, hps14⟩ := hq; cases hv
  obtain ⟨Is14, Fs14, e15, hv, hrs14, hps14⟩ := hq
  cases hv
  have JRLx_s14 : RLx s14 := RLx_fm Fs14 (by decide) JRLx_s11
  have JFEQ_s14 : FEQ s14 := FEQ_fm Fs14 (by decide) JFEQ_s11
  have JRWJ_s14 : RWJ s14 := RWJ_fm Fs14 (by decide +kernel) JRWJ_s11
  have JFTK_s14 : FTK s14 := FTK_fm Fs14 (by decide) JFTK_s11
  have JARJ_s14 : ARJ s14 := ARJ_fm Fs14 ⟨by decide +kernel, by decide +kernel, by decide +kernel, by decide +kernel, by decide +kernel, by decide +kernel, by decide +kernel, by decide +kernel⟩ JARJ_s11
  have JPMJ_s14 : PMJ s14 := PMJ_fm Fs14 (by decide +kernel) JPMJ_s11
  have JAPJ_s14 : AEQ 21 228 128 s14 := APJ_fm Fs14 (by decide) JAPJ_s11
  have JALJ_s14 : AEQ 24 229 8 s14 := ALJ_fm Fs14 (by decide) JALJ_s11
  have ws14_0 : iI s14 0 = iI s11 0 := fm_iq Fs14 rfl
  have ws14_74 : iI s14 74 = iI s11 74 := fm_iq Fs14 rfl
  have ws14_9 : iI s14 9 = iI s11 9 := fm_iq Fs14 rfl
  have ws14_90 : iI s14 90 = iI s11 90 := fm_iq Fs14 rfl
  have ws14_20 : iI s14 20 = iI s11 20 := fm_iq Fs14 rfl
  have b16 := bi_98 Is14
  have ws14_70 : iI s14 70 = iI s11 70 := fm_iq Fs14 rfl
  have ws14_107 : iI s14 107 = iI s11 107 := fm_iq Fs14 rfl
  have ws14_12 : iI s14 12 = iI s11 12 := fm_iq Fs14 rfl
  have ws14_89 : iI s14 89 = iI s11 89 := fm_iq Fs14 rfl
  have wos14 : iO s14 = iO s11 := fm_o Fs14 (by decide)
  show WS k 1852 [(0, .ref q1), (1, .ref (A 0)), (2, .ref (A 179)), (3, .ref (A 517)), (4, .int (Int32.ofInt i))] [.int (Int32.ofInt e15)] (Wd A dT s14) ce sl
  rcases hps11 with cc | cc
  ·
    rcases hps14 with mm | mm
    ·
      have jb17 : PTJ s14 := ⟨JPMJ_s14, JAPJ_s14, JALJ_s14, mkj_up jPTJ.2.2.2 jPTJ.2.1 cc.2.2.2 (by have z := mm.2.2.2.2; rw [show iI s11 98 = iI s 20 by first | (clear hps14 hps11; omega) | (clear hps11; omega) | omega] at z; exact mkp_t z (sam_fm Fs11 (by decide +kernel)) (fun k j hk => fm_c Fs11 ((by decide +kernel : ∀ i, i < 4 → 241 + i ∉ _) k hk))) (sam_fm Fs14 (by decide +kernel)) (by first | (clear hps14 hps11; omega) | (clear hps11; omega) | omega) (by first | (clear hps14 hps11; omega) | (clear hps11; omega) | omega)⟩
      refine w_pop X.1 (ax_d X (show cdA 350 1852 = some (.pop, 1, 0, 0, 0) from rfl)) rfl (z_goto X (t := 1894) rfl rfl (w_widen (ce' := ce + 29) (sl' := sl + 222) (by first | exact Nat.le_add_right _ _ | exact Nat.add_le_add_left (by decide) _ | omega) (by first | exact Nat.le_add_right _ _ | exact Nat.add_le_add_left (by decide) _ | omega) ?_))
      exact WS_lv (lv := [(0, .ref q1), (1, .ref (A 0)), (2, .ref (A 179)), (3, .ref (A 517)), (4, .int (Int32.ofInt i))]) (List.forall_mem_cons.mpr ⟨(List.Mem.head _), (List.forall_mem_cons.mpr ⟨(List.Mem.tail _ (List.Mem.head _)), (List.forall_mem_cons.mpr ⟨(List.Mem.tail _ (List.Mem.tail _ (List.Mem.head _))), (List.forall_mem_cons.mpr ⟨(List.Mem.tail _ (List.Mem.tail _ (List.Mem.tail _ (List.Mem.head _)))), (List.forall_mem_cons.mpr ⟨(List.Mem.tail _ (List.Mem.tail _ (List.Mem.tail _ (List.Mem.tail _ (List.Mem.head _))))), (fun q h => absurd h List.not_mem_nil)⟩)⟩)⟩)⟩)⟩) (hk A _ Is14 JRLx_s14 JFEQ_s14 JRWJ_s14 JFTK_s14 JARJ_s14 jb17 (by first | exact oq_f34933ba ws14_89 ws11_89 p1 b10.1 | omega) (by first | exact oq_d7ce4408 ws14_12 ws11_12 p2 | omega) (by first | exact oq_5bcdc35f ws14_74 ws14_0 ws11_74 ws11_0 p3 | omega) (by first | exact oq_5bcdc35f ws14_90 ws14_9 ws11_90 ws11_9 p4 | omega) (by first | (clear hps14 hps11; omega) | (clear hps11; omega) | omega) (by first | exact oq_5bcdc35f ws14_107 ws14_70 ws11_107 ws11_70 p6 | omega))
    ·
      exfalso
      omega
  ·
    rcases hps14 with mm | mm
    ·
      exfalso
      omega
    ·
      have jb18 : PTJ s14 := ⟨JPMJ_s14, JAPJ_s14, JALJ_s14, mkj_s jPTJ.2.2.2 (by first | (clear hps14 hps11; omega) | (clear hps11; omega) | omega) (sam_ts cc.2.2.2 (sam_fm Fs14 (by decide +kernel))) (fun k j hk => (mm.2.2.2.2 k j hk).trans ((fun k j hk => fm_c Fs11 ((by decide +kernel : ∀ i, i < 4 → 241 + i ∉ _) k hk)) k j hk))⟩
      refine w_pop X.1 (ax_d X (show cdA 350 1852 = some (.pop, 1, 0, 0, 0) from rfl)) rfl (z_goto X (t := 1894) rfl rfl (w_widen (ce' := ce + 29) (sl' := sl + 222) (by first | exact Nat.le_add_right _ _ | exact Nat.add_le_add_left (by decide) _ | omega) (by first | exact Nat.le_add_right _ _ | exact Nat.add_le_add_left (by decide) _ | omega) ?_))
      exact WS_lv (lv := [(0, .ref q1), (1, .ref (A 0)), (2, .ref (A 179)), (3, .ref (A 517)), (4, .int (Int32.ofInt i))]) (List.forall_mem_cons.mpr ⟨(List.Mem.head _), (List.forall_mem_cons.mpr ⟨(List.Mem.tail _ (List.Mem.head _)), (List.forall_mem_cons.mpr ⟨(List.Mem.tail _ (List.Mem.tail _ (List.Mem.head _))), (List.forall_mem_cons.mpr ⟨(List.Mem.tail _ (List.Mem.tail _ (List.Mem.tail _ (List.Mem.head _)))), (List.forall_mem_cons.mpr ⟨(List.Mem.tail _ (List.Mem.tail _ (List.Mem.tail _ (List.Mem.tail _ (List.Mem.head _))))), (fun q h => absurd h List.not_mem_nil)⟩)⟩)⟩)⟩)⟩) (hk A _ Is14 JRLx_s14 JFEQ_s14 JRWJ_s14 JFTK_s14 JARJ_s14 jb18 (by first | exact oq_f34933ba ws14_89 ws11_89 p1 b10.1 | omega) (by first | exact oq_d7ce4408 ws14_12 ws11_12 p2 | omega) (by first | exact oq_5bcdc35f ws14_74 ws14_0 ws11_74 ws11_0 p3 | omega) (by first | exact oq_5bcdc35f ws14_90 ws14_9 ws11_90 ws11_9 p4 | omega) (by first | (clear hps14 hps11; omega) | (clear hps11; omega) | omega) (by first | exact oq_5bcdc35f ws14_107 ws14_70 ws11_107 ws11_70 p6 | omega))
theorem lc_42 (G : GX l s0 D tys a0 dT) (GR : RS0 s0) (SF : SF0 s0) (GT : TXs0 s0) (GW : TXw0 s0) {k : kx_T} (X : AX k 350 dT) (E : kL k = l ∧ kS0 k = s0 ∧ kD k = D ∧ kR k = room_1) {q1 L : Nat} {xs : Nat → Int32} (S : SX k q1 L xs) (hL : L ≤ 3072) (I : Bd s) (jR : RLx s) (jFEQ : FEQ s) (jRWJ : RWJ s) (jFTK : FTK s) (jARJ : ARJ s) (jPTJ : PTJ s) (p1 : iI s 89 = 1) (p2 : iI s 12 ≤ 8) (p3 : iI s 0 = iI s 74) (p4 : iI s 9 = iI s 90) (p5 : iI s 20 = iI s 98) (p6 : iI s 70 = iI s 107) {i : Int} (hi : 0 ≤ i ∧ i + 6 ≤ (L : Int)) {ce sl : Nat} (hce : ce + 29 ≤ 601024) (hsl : sl + 222 ≤ 7293034) (hk : ∀ (A : Nat → Nat) (t : PS), Bd t → RLx t → FEQ t → RWJ t → FTK t → ARJ t → PTJ t → iI t 89 = 1 → iI t 12 ≤ 8 → iI t 0 = iI t 74 → iI t 9 = iI t 90 → iI t 20 = iI t 98 → iI t 70 = iI t 107 → WS k 1894 [(0, .ref q1), (1, .ref (A 0)), (2, .ref (A 179)), (3, .ref (A 517)), (4, .int (Int32.ofInt i))] [] (Wd A dT t) (ce + 29) (sl + 222)) : WS k 1856 [(0, .ref q1), (1, .ref (A 0)), (2, .ref (A 179)), (3, .ref (A 517)), (4, .int (Int32.ofInt i))] [] (Wd A dT s) ce sl := by
  have F : Fm [20, 73, 98] [21, 1022, 1023, 228] s s := fm_rf _ _ s
  have b1 := bi_0 I
  have b2 := bi_74 I
  have b3 := bi_9 I
  have b4 := bi_90 I
  have b5 := bi_20 I
  have b6 := bi_98 I
  have b7 := bi_70 I
  have b8 := bi_107 I
  have b9 := bi_12 I
  have b10 := bi_89 I
  refine z_aload_n X (x := A 0) rfl (List.Mem.tail _ (List.Mem.head _)) (z_callV X 0 (rm := rmN 177) (As := []) (st := []) rfl rfl (by decide) rfl (by rw [E.1, E.2.1, E.2.2.1]; exact cs_back6 G I jPTJ.1 ) ⟨by rw [E.2.2.2]; exact (show 8 + 1 ≤ 2048 from oq_5bf2829b), by rw [E.2.2.2]; exact (show 8 + (1 + 11) + 147 ≤ 84000 from oq_6fd3db4b), by rw [E.2.2.2]; exact (show ce + 0 ≤ 601024 by omega), by rw [E.2.2.2]; exact (show sl + 0 ≤ 7293034 by omega)⟩ (Nat.le_of_ble_eq_true rfl) (fun vv s11 hq => ?_) (fun ee s11 hq => ?_))
  rotate_left
  · obtain ⟨Is11, Fs11, JPMJ_s11, e12, hv, hrs11, hps11⟩ := hq; cases hv
  obtain ⟨Is11, Fs11, JPMJ_s11, e12, hv, hrs11, hps11⟩ := hq
  cases hv
  have JRLx_s11 : RLx s11 := RLx_fm Fs11 (by decide) jR
  have JFEQ_s11 : FEQ s11 := FEQ_fm Fs11 (by decide) jFEQ
  have JRWJ_s11 : RWJ s11 := RWJ_fm Fs11 (by decide +kernel) jRWJ
  have JFTK_s11 : FTK s11 := FTK_fm Fs11 (by decide) jFTK
  have JARJ_s11 : ARJ s11 := ARJ_fm Fs11 ⟨by decide +kernel, by decide +kernel, by decide +kernel, by decide +kernel, by decide +kernel, by decide +kernel, by decide +kernel, by decide +kernel⟩ jARJ
  have JALJ_s11 : AEQ 24 229 8 s11 := ALJ_fm Fs11 (by decide) jPTJ.2.2.1
  have ws11_0 : iI s11 0 = iI s 0 := fm_iq Fs11 rfl
  have ws11_74 : iI s11 74 = iI s 74 := fm_iq Fs11 rfl
  have ws11_9 : iI s11 9 = iI s 9 := fm_iq Fs11 rfl
  have ws11_90 : iI s11 90 = iI s 90 := fm_iq Fs11 rfl
  have b13 := bi_20 Is11
  have ws11_98 : iI s11 98 = iI s 98 := fm_iq Fs11 rfl
  have ws11_70 : iI s11 70 = iI s 70 := fm_iq Fs11 rfl
  have ws11_107 : iI s11 107 = iI s 107 := fm_iq Fs11 rfl
  have ws11_12 : iI s11 12 = iI s 12 := fm_iq Fs11 rfl
  have ws11_89 : iI s11 89 = iI s 89 := fm_iq Fs11 rfl
  have wos11 : iO s11 = iO s := fm_o Fs11 (by decide)
  show WS k 1860 [(0, .ref q1), (1, .ref (A 0)), (2, .ref (A 179)), (3, .ref (A 517)), (4, .int (Int32.ofInt i))] [.int (Int32.ofInt e12)] (Wd A dT s11) ce sl
  refine w_pop X.1 (ax_d X (show cdA 350 1860 = some (.pop, 1, 0, 0, 0) from rfl)) rfl (z_aload_n X (x := A 179) rfl (List.Mem.tail _ (List.Mem.tail _ (List.Mem.head _))) (z_callV X 179 (rm := rmN 294) (As := []) (st := []) rfl rfl (by decide) rfl (by rw [E.1, E.2.1, E.2.2.1]; exact k_back6 G Is11 ) ⟨by rw [E.2.2.2]; exact (show 6 + 1 ≤ 2048 from oq_4d34cb53), by rw [E.2.2.2]; exact (show 8 + (2 + 11) + 100 ≤ 84000 from oq_8731b8c0), by rw [E.2.2.2]; exact (show ce + 0 ≤ 601024 by first | (clear hps11; omega) | omega), by rw [E.2.2.2]; exact (show sl + 0 ≤ 7293034 by first | (clear hps11; omega) | omega)⟩ (Nat.le_of_ble_eq_true rfl) (fun vv s14 hq => ?_) (fun ee s14 hq => ?_)))
  rotate_left
  · obtain ⟨Is14, Fs14, e15, hv, hrs14, hps14⟩ := hq; cases hv
  obtain ⟨Is14, Fs14, e15, hv, hrs14, hps14⟩ := hq
  cases hv
  have JRLx_s14 : RLx s14 := RLx_fm Fs14 (by decide) JRLx_s11
  have JFEQ_s14 : FEQ s14 := FEQ_fm Fs14 (by decide) JFEQ_s11
  have JRWJ_s14 : RWJ s14 := RWJ_fm Fs14 (by decide +kernel) JRWJ_s11
  have JFTK_s14 : FTK s14 := FTK_fm Fs14 (by decide) JFTK_s11
  have JARJ_s14 : ARJ s14 := ARJ_fm Fs14 ⟨by decide +kernel, by decide +kernel, by decide +kernel, by decide +kernel, by decide +kernel, by decide +kernel, by decide +kernel, by decide +kernel⟩ JARJ_s11
  have JPMJ_s14 : PMJ s14 := PMJ_fm Fs14 (by decide +kernel) JPMJ_s11
  have JALJ_s14 : AEQ 24 229 8 s14 := ALJ_fm Fs14 (by decide) JALJ_s11
  have ws14_0 : iI s14 0 = iI s11 0 := fm_iq Fs14 rfl
  have ws14_74 : iI s14 74 = iI s11 74 := fm_iq Fs14 rfl
  have ws14_9 : iI s14 9 = iI s11 9 := fm_iq Fs14 rfl
  have ws14_90 : iI s14 90 = iI s11 90 := fm_iq Fs14 rfl
  have ws14_20 : iI s14 20 = iI s11 20 := fm_iq Fs14 rfl
  have b16 := bi_98 Is14
  have ws14_70 : iI s14 70 = iI s11 70 := fm_iq Fs14 rfl
  have ws14_107 : iI s14 107 = iI s11 107 := fm_iq Fs14 rfl
  have ws14_12 : iI s14 12 = iI s11 12 := fm_iq Fs14 rfl
  have ws14_89 : iI s14 89 = iI s11 89 := fm_iq Fs14 rfl
  have wos14 : iO s14 = iO s11 := fm_o Fs14 (by decide)
  show WS k 1865 [(0, .ref q1), (1, .ref (A 0)), (2, .ref (A 179)), (3, .ref (A 517)), (4, .int (Int32.ofInt i))] [.int (Int32.ofInt e15)] (Wd A dT s14) ce sl
  rcases hps11 with cc | cc
  ·
    rcases hps14 with mm | mm
    ·
      have jb17 : PTJ s14 := ⟨JPMJ_s14, apj_bkq jPTJ.2.2.2 (by first | (clear hps14 hps11; omega) | (clear hps11; omega) | omega) cc.2.2.2 mm.2.2.2.2 (by first | (clear hps14 hps11; omega) | (clear hps11; omega) | omega) (fun k j hk => fm_c Fs11 ((by decide +kernel : ∀ i, i < 4 → 241 + i ∉ _) k hk)) (sam_fm Fs14 (by decide +kernel)), JALJ_s14, mkj_s jPTJ.2.2.2 (by first | (clear hps14 hps11; omega) | (clear hps11; omega) | omega) (sam_ts (sam_fm Fs11 (by decide +kernel) : SAM 25 _ _) (sam_fm Fs14 (by decide +kernel))) (fun k j hk => ((fun k j hk => fm_c Fs14 ((by decide +kernel : ∀ i, i < 4 → 241 + i ∉ _) k hk)) k j hk).trans ((fun k j hk => fm_c Fs11 ((by decide +kernel : ∀ i, i < 4 → 241 + i ∉ _) k hk)) k j hk))⟩
      refine w_pop X.1 (ax_d X (show cdA 350 1865 = some (.pop, 1, 0, 0, 0) from rfl)) rfl (z_goto X (t := 1894) rfl rfl (w_widen (ce' := ce + 29) (sl' := sl + 222) (by first | exact Nat.le_add_right _ _ | exact Nat.add_le_add_left (by decide) _ | omega) (by first | exact Nat.le_add_right _ _ | exact Nat.add_le_add_left (by decide) _ | omega) ?_))
      exact WS_lv (lv := [(0, .ref q1), (1, .ref (A 0)), (2, .ref (A 179)), (3, .ref (A 517)), (4, .int (Int32.ofInt i))]) (List.forall_mem_cons.mpr ⟨(List.Mem.head _), (List.forall_mem_cons.mpr ⟨(List.Mem.tail _ (List.Mem.head _)), (List.forall_mem_cons.mpr ⟨(List.Mem.tail _ (List.Mem.tail _ (List.Mem.head _))), (List.forall_mem_cons.mpr ⟨(List.Mem.tail _ (List.Mem.tail _ (List.Mem.tail _ (List.Mem.head _)))), (List.forall_mem_cons.mpr ⟨(List.Mem.tail _ (List.Mem.tail _ (List.Mem.tail _ (List.Mem.tail _ (List.Mem.head _))))), (fun q h => absurd h List.not_mem_nil)⟩)⟩)⟩)⟩)⟩) (hk A _ Is14 JRLx_s14 JFEQ_s14 JRWJ_s14 JFTK_s14 JARJ_s14 jb17 (by first | exact oq_f34933ba ws14_89 ws11_89 p1 b10.1 | omega) (by first | exact oq_d7ce4408 ws14_12 ws11_12 p2 | omega) (by first | exact oq_5bcdc35f ws14_74 ws14_0 ws11_74 ws11_0 p3 | omega) (by first | exact oq_5bcdc35f ws14_90 ws14_9 ws11_90 ws11_9 p4 | omega) (by first | (clear hps14 hps11; omega) | (clear hps11; omega) | omega) (by first | exact oq_5bcdc35f ws14_107 ws14_70 ws11_107 ws11_70 p6 | omega))
    ·
      exfalso
      omega
  ·
    rcases hps14 with mm | mm
    ·
      exfalso
      omega
    ·
      have jb18 : PTJ s14 := ⟨JPMJ_s14, aeq_sam jPTJ.2.1 (sam_ts cc.2.2.2 (sam_fm Fs14 (by decide +kernel))) (sam_ts (sam_fm Fs11 (by decide +kernel)) mm.2.2.2.2), JALJ_s14, mkj_s jPTJ.2.2.2 (by first | (clear hps14 hps11; omega) | (clear hps11; omega) | omega) (sam_ts (sam_fm Fs11 (by decide +kernel) : SAM 25 _ _) (sam_fm Fs14 (by decide +kernel))) (fun k j hk => ((fun k j hk => fm_c Fs14 ((by decide +kernel : ∀ i, i < 4 → 241 + i ∉ _) k hk)) k j hk).trans ((fun k j hk => fm_c Fs11 ((by decide +kernel : ∀ i, i < 4 → 241 + i ∉ _) k hk)) k j hk))⟩
      refine w_pop X.1 (ax_d X (show cdA 350 1865 = some (.pop, 1, 0, 0, 0) from rfl)) rfl (z_goto X (t := 1894) rfl rfl (w_widen (ce' := ce + 29) (sl' := sl + 222) (by first | exact Nat.le_add_right _ _ | exact Nat.add_le_add_left (by decide) _ | omega) (by first | exact Nat.le_add_right _ _ | exact Nat.add_le_add_left (by decide) _ | omega) ?_))
      exact WS_lv (lv := [(0, .ref q1), (1, .ref (A 0)), (2, .ref (A 179)), (3, .ref (A 517)), (4, .int (Int32.ofInt i))]) (List.forall_mem_cons.mpr ⟨(List.Mem.head _), (List.forall_mem_cons.mpr ⟨(List.Mem.tail _ (List.Mem.head _)), (List.forall_mem_cons.mpr ⟨(List.Mem.tail _ (List.Mem.tail _ (List.Mem.head _))), (List.forall_mem_cons.mpr ⟨(List.Mem.tail _ (List.Mem.tail _ (List.Mem.tail _ (List.Mem.head _)))), (List.forall_mem_cons.mpr ⟨(List.Mem.tail _ (List.Mem.tail _ (List.Mem.tail _ (List.Mem.tail _ (List.Mem.head _))))), (fun q h => absurd h List.not_mem_nil)⟩)⟩)⟩)⟩)⟩) (hk A _ Is14 JRLx_s14 JFEQ_s14 JRWJ_s14 JFTK_s14 JARJ_s14 jb18 (by first | exact oq_f34933ba ws14_89 ws11_89 p1 b10.1 | omega) (by first | exact oq_d7ce4408 ws14_12 ws11_12 p2 | omega) (by first | exact oq_5bcdc35f ws14_74 ws14_0 ws11_74 ws11_0 p3 | omega) (by first | exact oq_5bcdc35f ws14_90 ws14_9 ws11_90 ws11_9 p4 | omega) (by first | (clear hps14 hps11; omega) | (clear hps11; omega) | omega) (by first | exact oq_5bcdc35f ws14_107 ws14_70 ws11_107 ws11_70 p6 | omega))
theorem lc_43 (G : GX l s0 D tys a0 dT) (GR : RS0 s0) (SF : SF0 s0) (GT : TXs0 s0) (GW : TXw0 s0) {k : kx_T} (X : AX k 350 dT) (E : kL k = l ∧ kS0 k = s0 ∧ kD k = D ∧ kR k = room_1) {q1 L : Nat} {xs : Nat → Int32} (S : SX k q1 L xs) (hL : L ≤ 3072) (I : Bd s) (jR : RLx s) (jFEQ : FEQ s) (jRWJ : RWJ s) (jFTK : FTK s) (jARJ : ARJ s) (jPTJ : PTJ s) (p1 : iI s 89 = 1) (p2 : iI s 12 ≤ 8) (p3 : iI s 0 = iI s 74) (p4 : iI s 9 = iI s 90) (p5 : iI s 20 = iI s 98) (p6 : iI s 70 = iI s 107) {i : Int} (hi : 0 ≤ i ∧ i + 6 ≤ (L : Int)) {ce sl : Nat} (hce : ce + 29 ≤ 601024) (hsl : sl + 222 ≤ 7293034) (hk : ∀ (A : Nat → Nat) (t : PS), Bd t → RLx t → FEQ t → RWJ t → FTK t → ARJ t → PTJ t → iI t 89 = 1 → iI t 12 ≤ 8 → iI t 0 = iI t 74 → iI t 9 = iI t 90 → iI t 20 = iI t 98 → iI t 70 = iI t 107 → WS k 1894 [(0, .ref q1), (1, .ref (A 0)), (2, .ref (A 179)), (3, .ref (A 517)), (4, .int (Int32.ofInt i))] [] (Wd A dT t) (ce + 29) (sl + 222)) : WS k 1869 [(0, .ref q1), (1, .ref (A 0)), (2, .ref (A 179)), (3, .ref (A 517)), (4, .int (Int32.ofInt i))] [] (Wd A dT s) ce sl := by
  have F : Fm [73] [] s s := fm_rf _ _ s
  have b1 := bi_0 I
  have b2 := bi_74 I
  have b3 := bi_9 I
  have b4 := bi_90 I
  have b5 := bi_20 I
  have b6 := bi_98 I
  have b7 := bi_70 I
  have b8 := bi_107 I
  have b9 := bi_12 I
  have b10 := bi_89 I
  refine z_aload_n X (x := A 0) rfl (List.Mem.tail _ (List.Mem.head _)) (z_aload_n X (x := q1) rfl (List.Mem.head _) (z_load X (x := i) rfl (List.Mem.tail _ (List.Mem.tail _ (List.Mem.tail _ (List.Mem.tail _ (List.Mem.head _))))) (z_const X rfl (z_add X rfl (z_sld X S hL rfl (show 0 ≤ (i + 1) ∧ (i + 1) < (L : Int) by first | exact sx_in hi (by decide) | omega) ?_)))))
  have sr11 : rng (sc xs (i + 1)) := sc_rng
  refine z_callV X 0 (rm := rmN 178) (As := [.int (Int32.ofInt (sc xs (i + 1)))]) (st := []) rfl rfl (by decide) rfl (by rw [E.1, E.2.1, E.2.2.1]; exact cs_count G I (by first | exact ⟨sr11.1, sr11.2⟩ | omega)) ⟨by rw [E.2.2.2]; exact (show 8 + 1 ≤ 2048 from oq_5bf2829b), by rw [E.2.2.2]; exact (show 8 + (2 + 11) + 143 ≤ 84000 from oq_ca72eefc), by rw [E.2.2.2]; exact (show ce + 0 ≤ 601024 by omega), by rw [E.2.2.2]; exact (show sl + 0 ≤ 7293034 by omega)⟩ (Nat.le_of_ble_eq_true rfl) (fun vv s12 hq => ?_) (fun ee s12 hq => ?_)
  rotate_left
  · obtain ⟨Is12, Fs12, e13, hv, hrs12, hps12⟩ := hq; cases hv
  obtain ⟨Is12, Fs12, e13, hv, hrs12, hps12⟩ := hq
  cases hv
  have JRLx_s12 : RLx s12 := RLx_fm Fs12 (by decide) jR
  have JFEQ_s12 : FEQ s12 := FEQ_fm Fs12 (by decide) jFEQ
  have JRWJ_s12 : RWJ s12 := RWJ_fm Fs12 (by decide +kernel) jRWJ
  have JFTK_s12 : FTK s12 := FTK_fm Fs12 (by decide) jFTK
  have JARJ_s12 : ARJ s12 := ARJ_fm Fs12 ⟨by decide +kernel, by decide +kernel, by decide +kernel, by decide +kernel, by decide +kernel, by decide +kernel, by decide +kernel, by decide +kernel⟩ jARJ
  have JPTJ_s12 : PTJ s12 := PTJ_fm Fs12 (by decide +kernel) jPTJ
  have ws12_0 : iI s12 0 = iI s 0 := fm_iq Fs12 rfl
  have ws12_74 : iI s12 74 = iI s 74 := fm_iq Fs12 rfl
  have ws12_9 : iI s12 9 = iI s 9 := fm_iq Fs12 rfl
  have ws12_90 : iI s12 90 = iI s 90 := fm_iq Fs12 rfl
  have ws12_20 : iI s12 20 = iI s 20 := fm_iq Fs12 rfl
  have ws12_98 : iI s12 98 = iI s 98 := fm_iq Fs12 rfl
  have ws12_70 : iI s12 70 = iI s 70 := fm_iq Fs12 rfl
  have ws12_107 : iI s12 107 = iI s 107 := fm_iq Fs12 rfl
  have ws12_12 : iI s12 12 = iI s 12 := fm_iq Fs12 rfl
  have ws12_89 : iI s12 89 = iI s 89 := fm_iq Fs12 rfl
  have wos12 : iO s12 = iO s := fm_o Fs12 (by decide)
  show WS k 1879 [(0, .ref q1), (1, .ref (A 0)), (2, .ref (A 179)), (3, .ref (A 517)), (4, .int (Int32.ofInt i))] [.int (Int32.ofInt e13)] (Wd A dT s12) ce sl
  refine w_pop X.1 (ax_d X (show cdA 350 1879 = some (.pop, 1, 0, 0, 0) from rfl)) rfl (z_aload_n X (x := A 179) rfl (List.Mem.tail _ (List.Mem.tail _ (List.Mem.head _))) (z_aload_n X (x := q1) rfl (List.Mem.head _) (z_load X (x := i) rfl (List.Mem.tail _ (List.Mem.tail _ (List.Mem.tail _ (List.Mem.tail _ (List.Mem.head _))))) (z_const X rfl (z_add X rfl (z_sld X S hL rfl (show 0 ≤ (i + 1) ∧ (i + 1) < (L : Int) by first | exact sx_in hi (by decide) | omega) ?_))))))
  have sr14 : rng (sc xs (i + 1)) := sc_rng
  refine z_callV X 179 (rm := rmN 295) (As := [.int (Int32.ofInt (sc xs (i + 1)))]) (st := []) rfl rfl (by decide) rfl (by rw [E.1, E.2.1, E.2.2.1]; exact k_count G Is12 (by first | exact ⟨sr14.1, sr14.2⟩ | omega)) ⟨by rw [E.2.2.2]; exact (show 7 + 1 ≤ 2048 from oq_4e6106eb), by rw [E.2.2.2]; exact (show 8 + (6 + 11) + 122 ≤ 84000 from oq_380e4f97), by rw [E.2.2.2]; exact (show ce + 0 ≤ 601024 by omega), by rw [E.2.2.2]; exact (show sl + 0 ≤ 7293034 by omega)⟩ (Nat.le_of_ble_eq_true rfl) (fun vv s15 hq => ?_) (fun ee s15 hq => ?_)
  rotate_left
  · obtain ⟨Is15, Fs15, e16, hv, hrs15, hps15⟩ := hq; cases hv
  obtain ⟨Is15, Fs15, e16, hv, hrs15, hps15⟩ := hq
  cases hv
  have JRLx_s15 : RLx s15 := RLx_fm Fs15 (by decide) JRLx_s12
  have JFEQ_s15 : FEQ s15 := FEQ_fm Fs15 (by decide) JFEQ_s12
  have JRWJ_s15 : RWJ s15 := RWJ_fm Fs15 (by decide +kernel) JRWJ_s12
  have JFTK_s15 : FTK s15 := FTK_fm Fs15 (by decide) JFTK_s12
  have JARJ_s15 : ARJ s15 := ARJ_fm Fs15 ⟨by decide +kernel, by decide +kernel, by decide +kernel, by decide +kernel, by decide +kernel, by decide +kernel, by decide +kernel, by decide +kernel⟩ JARJ_s12
  have JPTJ_s15 : PTJ s15 := PTJ_fm Fs15 (by decide +kernel) JPTJ_s12
  have ws15_0 : iI s15 0 = iI s12 0 := fm_iq Fs15 rfl
  have ws15_74 : iI s15 74 = iI s12 74 := fm_iq Fs15 rfl
  have ws15_9 : iI s15 9 = iI s12 9 := fm_iq Fs15 rfl
  have ws15_90 : iI s15 90 = iI s12 90 := fm_iq Fs15 rfl
  have ws15_20 : iI s15 20 = iI s12 20 := fm_iq Fs15 rfl
  have ws15_98 : iI s15 98 = iI s12 98 := fm_iq Fs15 rfl
  have ws15_70 : iI s15 70 = iI s12 70 := fm_iq Fs15 rfl
  have ws15_107 : iI s15 107 = iI s12 107 := fm_iq Fs15 rfl
  have ws15_12 : iI s15 12 = iI s12 12 := fm_iq Fs15 rfl
  have ws15_89 : iI s15 89 = iI s12 89 := fm_iq Fs15 rfl
  have wos15 : iO s15 = iO s12 := fm_o Fs15 (by decide)
  show WS k 1890 [(0, .ref q1), (1, .ref (A 0)), (2, .ref (A 179)), (3, .ref (A 517)), (4, .int (Int32.ofInt i))] [.int (Int32.ofInt e16)] (Wd A dT s15) ce sl
  refine w_pop X.1 (ax_d X (show cdA 350 1890 = some (.pop, 1, 0, 0, 0) from rfl)) rfl (z_goto X (t := 1894) rfl rfl (w_widen (ce' := ce + 29) (sl' := sl + 222) (by first | exact Nat.le_add_right _ _ | exact Nat.add_le_add_left (by decide) _ | omega) (by first | exact Nat.le_add_right _ _ | exact Nat.add_le_add_left (by decide) _ | omega) ?_))
  exact WS_lv (lv := [(0, .ref q1), (1, .ref (A 0)), (2, .ref (A 179)), (3, .ref (A 517)), (4, .int (Int32.ofInt i))]) (List.forall_mem_cons.mpr ⟨(List.Mem.head _), (List.forall_mem_cons.mpr ⟨(List.Mem.tail _ (List.Mem.head _)), (List.forall_mem_cons.mpr ⟨(List.Mem.tail _ (List.Mem.tail _ (List.Mem.head _))), (List.forall_mem_cons.mpr ⟨(List.Mem.tail _ (List.Mem.tail _ (List.Mem.tail _ (List.Mem.head _)))), (List.forall_mem_cons.mpr ⟨(List.Mem.tail _ (List.Mem.tail _ (List.Mem.tail _ (List.Mem.tail _ (List.Mem.head _))))), (fun q h => absurd h List.not_mem_nil)⟩)⟩)⟩)⟩)⟩) (hk A _ Is15 JRLx_s15 JFEQ_s15 JRWJ_s15 JFTK_s15 JARJ_s15 JPTJ_s15 (by first | exact oq_f34933ba ws15_89 ws12_89 p1 b10.1 | omega) (by first | exact oq_d7ce4408 ws15_12 ws12_12 p2 | omega) (by first | exact oq_5bcdc35f ws15_74 ws15_0 ws12_74 ws12_0 p3 | omega) (by first | exact oq_5bcdc35f ws15_90 ws15_9 ws12_90 ws12_9 p4 | omega) (by first | exact oq_5bcdc35f ws15_98 ws15_20 ws12_98 ws12_20 p5 | omega) (by first | exact oq_5bcdc35f ws15_107 ws15_70 ws12_107 ws12_70 p6 | omega))
theorem law_head (G : GX l s0 D tys a0 dT) (GR : RS0 s0) (SF : SF0 s0) (GT : TXs0 s0) (GW : TXw0 s0) {k : kx_T} (X : AX k 350 dT) (E : kL k = l ∧ kS0 k = s0 ∧ kD k = D ∧ kR k = room_1) {q1 L : Nat} {xs : Nat → Int32} (S : SX k q1 L xs) (hL : L ≤ 3072) (hRt : (kMe k).sig.returnType = some .boolean) (q : kx_end k K0 601024 7293034) : ∀ (n m : Nat) (A : Nat → Nat) (s : PS), Bd s → RLx s → FEQ s → RWJ s → FTK s → ARJ s → PTJ s → iI s 89 = 1 → iI s 12 ≤ 8 → iI s 0 = iI s 74 → iI s 9 = iI s 90 → iI s 20 = iI s 98 → iI s 70 = iI s 107 → (L : Int) ≤ 6 * ((m + n : Nat) : Int) + 5 → m ≤ 512 → WS k 23 [(0, .ref q1), (1, .ref (A 0)), (2, .ref (A 179)), (3, .ref (A 517)), (4, .int (Int32.ofInt (6 * (m : Int))))] [] (Wd A dT s) (518 + 29 * m) (23524 + 222 * m) := by
  intro n
  induction n with
  | zero =>
    intro m A s I jR jFEQ jRWJ jFTK jARJ jPTJ p1 p2 p3 p4 p5 p6 hn hm
    refine z_load X (x := (6 * (m : Int))) rfl (List.Mem.tail _ (List.Mem.tail _ (List.Mem.tail _ (List.Mem.tail _ (List.Mem.head _))))) (z_aload_n X (x := q1) rfl (List.Mem.head _) (z_slen X S hL rfl (z_bipush X rfl (z_sub X rfl (z_icmp_gt X (t := 1900) rfl rfl ⟨by omega, by omega⟩ ⟨by omega, by omega⟩ (fun g1 => ?_) (fun g1 => ?_))))))
    ·
      refine z_const X rfl ?_
      exact w_iret X.1 q hRt (nar_ret (Or.inr rfl)) (ax_d X (show cdA 350 1901 = some (.ireturn, 1, 0, 0, 0) from rfl)) (by omega) (by omega) rfl
    ·
      exfalso
      omega
  | succ n ih =>
    intro m A s I jR jFEQ jRWJ jFTK jARJ jPTJ p1 p2 p3 p4 p5 p6 hn hm
    refine z_load X (x := (6 * (m : Int))) rfl (List.Mem.tail _ (List.Mem.tail _ (List.Mem.tail _ (List.Mem.tail _ (List.Mem.head _))))) (z_aload_n X (x := q1) rfl (List.Mem.head _) (z_slen X S hL rfl (z_bipush X rfl (z_sub X rfl (z_icmp_gt X (t := 1900) rfl rfl ⟨by omega, by omega⟩ ⟨by omega, by omega⟩ (fun g1 => ?_) (fun g1 => ?_))))))
    ·
      refine z_const X rfl ?_
      exact w_iret X.1 q hRt (nar_ret (Or.inr rfl)) (ax_d X (show cdA 350 1901 = some (.ireturn, 1, 0, 0, 0) from rfl)) (by omega) (by omega) rfl
    ·
      have hk : ∀ (A : Nat → Nat) (t : PS), Bd t → RLx t → FEQ t → RWJ t → FTK t → ARJ t → PTJ t → iI t 89 = 1 → iI t 12 ≤ 8 → iI t 0 = iI t 74 → iI t 9 = iI t 90 → iI t 20 = iI t 98 → iI t 70 = iI t 107 → WS k 1894 [(0, .ref q1), (1, .ref (A 0)), (2, .ref (A 179)), (3, .ref (A 517)), (4, .int (Int32.ofInt (6 * (m : Int))))] [] (Wd A dT t) (518 + 29 * m + 29) (23524 + 222 * m + 222) := by
        intro A t I jR jFEQ jRWJ jFTK jARJ jPTJ p1 p2 p3 p4 p5 p6
        refine z_inc X (x := (6 * (m : Int))) (lv' := [(4, .int (Int32.ofInt (6 * (m : Int) + 6))), (0, .ref q1), (1, .ref (A 0)), (2, .ref (A 179)), (3, .ref (A 517))]) rfl (by decide) (List.Mem.tail _ (List.Mem.tail _ (List.Mem.tail _ (List.Mem.tail _ (List.Mem.head _))))) (fun _ h => h) (z_goto X (t := 23) rfl rfl ?_)
        have e6 : (6 * (m : Int) + 6) = 6 * ((m + 1 : Nat) : Int) := by omega
        rw [e6]
        refine WS_pq [1, 2, 3, 4, 0] (lv' := [(0, .ref q1), (1, .ref (A 0)), (2, .ref (A 179)), (3, .ref (A 517)), (4, .int (Int32.ofInt (6 * ((m + 1 : Nat) : Int))))]) rfl (w_widen (ce' := 518 + 29 * (m + 1)) (sl' := 23524 + 222 * (m + 1)) (by omega) (by omega) ?_)
        exact ih (m + 1) A t I jR jFEQ jRWJ jFTK jARJ jPTJ p1 p2 p3 p4 p5 p6 (by omega) (by omega)
      refine z_aload_n X (x := q1) rfl (List.Mem.head _) (z_load X (x := (6 * (m : Int))) rfl (List.Mem.tail _ (List.Mem.tail _ (List.Mem.tail _ (List.Mem.tail _ (List.Mem.head _))))) (z_sld X S hL rfl (show 0 ≤ (6 * (m : Int)) ∧ (6 * (m : Int)) < (L : Int) by first | exact sx_in hi (by decide) | omega) ?_))
      have sr2 : rng (sc xs (6 * (m : Int))) := sc_rng
      refine z_bipush X rfl (z_andm X rfl (by decide) (by decide) (fun y3 hy3 gy3 => ?_))
      rcases (show y3 = 0 ∨ y3 = 1 ∨ y3 = 2 ∨ y3 = 3 ∨ y3 = 4 ∨ y3 = 5 ∨ y3 = 6 ∨ y3 = 7 ∨ y3 = 8 ∨ y3 = 9 ∨ y3 = 10 ∨ y3 = 11 ∨ y3 = 12 ∨ y3 = 13 ∨ y3 = 14 ∨ y3 = 15 ∨ y3 = 16 ∨ y3 = 17 ∨ y3 = 18 ∨ y3 = 19 ∨ y3 = 20 ∨ y3 = 21 ∨ y3 = 22 ∨ y3 = 23 ∨ y3 = 24 ∨ y3 = 25 ∨ y3 = 26 ∨ y3 = 27 ∨ y3 = 28 ∨ y3 = 29 ∨ y3 = 30 ∨ y3 = 31 ∨ y3 = 32 ∨ y3 = 33 ∨ y3 = 34 ∨ y3 = 35 ∨ y3 = 36 ∨ y3 = 37 ∨ y3 = 38 ∨ y3 = 39 ∨ y3 = 40 ∨ y3 = 41 ∨ y3 = 42 ∨ y3 = 43 ∨ (y3 < 0 ∨ 43 < y3) by omega) with gs | gs | gs | gs | gs | gs | gs | gs | gs | gs | gs | gs | gs | gs | gs | gs | gs | gs | gs | gs | gs | gs | gs | gs | gs | gs | gs | gs | gs | gs | gs | gs | gs | gs | gs | gs | gs | gs | gs | gs | gs | gs | gs | gs | gs
      ·
        rw [gs]
        refine w_tabIn X.1 (dflt := 1854) (lo := 0) (hi := 43) (offs := #[192, 265, 293, 321, 334, 374, 435, 484, 524, 564, 616, 656, 708, 748, 776, 816, 844, 872, 900, 913, 926, 954, 982, 1010, 1050, 1063, 1091, 1131, 1159, 1199, 1239, 1279, 1331, 1371, 1399, 1455, 1519, 1599, 1655, 1735, 1775, 1803, 1816, 1829]) (len := 192) (off := 192) (t := 232) (ax_d X (show cdA 350 40 = some (.tableswitch 1854 0 43 #[192, 265, 293, 321, 334, 374, 435, 484, 524, 564, 616, 656, 708, 748, 776, 816, 844, 872, 900, 913, 926, 954, 982, 1010, 1050, 1063, 1091, 1131, 1159, 1199, 1239, 1279, 1331, 1371, 1399, 1455, 1519, 1599, 1655, 1735, 1775, 1803, 1816, 1829], 192, 0, 0, 0) from rfl)) (by decide) (by decide) (by decide) (by decide) ?_
        exact lc_0 G GR SF GT GW X E S hL I jR jFEQ jRWJ jFTK jARJ jPTJ p1 p2 p3 p4 p5 p6 (by omega) (by omega) (by omega) hk
      ·
        rw [gs]
        refine w_tabIn X.1 (dflt := 1854) (lo := 0) (hi := 43) (offs := #[192, 265, 293, 321, 334, 374, 435, 484, 524, 564, 616, 656, 708, 748, 776, 816, 844, 872, 900, 913, 926, 954, 982, 1010, 1050, 1063, 1091, 1131, 1159, 1199, 1239, 1279, 1331, 1371, 1399, 1455, 1519, 1599, 1655, 1735, 1775, 1803, 1816, 1829]) (len := 192) (off := 265) (t := 305) (ax_d X (show cdA 350 40 = some (.tableswitch 1854 0 43 #[192, 265, 293, 321, 334, 374, 435, 484, 524, 564, 616, 656, 708, 748, 776, 816, 844, 872, 900, 913, 926, 954, 982, 1010, 1050, 1063, 1091, 1131, 1159, 1199, 1239, 1279, 1331, 1371, 1399, 1455, 1519, 1599, 1655, 1735, 1775, 1803, 1816, 1829], 192, 0, 0, 0) from rfl)) (by decide) (by decide) (by decide) (by decide) ?_
        exact lc_1 G GR SF GT GW X E S hL I jR jFEQ jRWJ jFTK jARJ jPTJ p1 p2 p3 p4 p5 p6 (by omega) (by omega) (by omega) hk
      ·
        rw [gs]
        refine w_tabIn X.1 (dflt := 1854) (lo := 0) (hi := 43) (offs := #[192, 265, 293, 321, 334, 374, 435, 484, 524, 564, 616, 656, 708, 748, 776, 816, 844, 872, 900, 913, 926, 954, 982, 1010, 1050, 1063, 1091, 1131, 1159, 1199, 1239, 1279, 1331, 1371, 1399, 1455, 1519, 1599, 1655, 1735, 1775, 1803, 1816, 1829]) (len := 192) (off := 293) (t := 333) (ax_d X (show cdA 350 40 = some (.tableswitch 1854 0 43 #[192, 265, 293, 321, 334, 374, 435, 484, 524, 564, 616, 656, 708, 748, 776, 816, 844, 872, 900, 913, 926, 954, 982, 1010, 1050, 1063, 1091, 1131, 1159, 1199, 1239, 1279, 1331, 1371, 1399, 1455, 1519, 1599, 1655, 1735, 1775, 1803, 1816, 1829], 192, 0, 0, 0) from rfl)) (by decide) (by decide) (by decide) (by decide) ?_
        exact lc_2 G GR SF GT GW X E S hL I jR jFEQ jRWJ jFTK jARJ jPTJ p1 p2 p3 p4 p5 p6 (by omega) (by omega) (by omega) hk
      ·
        rw [gs]
        refine w_tabIn X.1 (dflt := 1854) (lo := 0) (hi := 43) (offs := #[192, 265, 293, 321, 334, 374, 435, 484, 524, 564, 616, 656, 708, 748, 776, 816, 844, 872, 900, 913, 926, 954, 982, 1010, 1050, 1063, 1091, 1131, 1159, 1199, 1239, 1279, 1331, 1371, 1399, 1455, 1519, 1599, 1655, 1735, 1775, 1803, 1816, 1829]) (len := 192) (off := 321) (t := 361) (ax_d X (show cdA 350 40 = some (.tableswitch 1854 0 43 #[192, 265, 293, 321, 334, 374, 435, 484, 524, 564, 616, 656, 708, 748, 776, 816, 844, 872, 900, 913, 926, 954, 982, 1010, 1050, 1063, 1091, 1131, 1159, 1199, 1239, 1279, 1331, 1371, 1399, 1455, 1519, 1599, 1655, 1735, 1775, 1803, 1816, 1829], 192, 0, 0, 0) from rfl)) (by decide) (by decide) (by decide) (by decide) ?_
        exact lc_3 G GR SF GT GW X E S hL I jR jFEQ jRWJ jFTK jARJ jPTJ p1 p2 p3 p4 p5 p6 (by omega) (by omega) (by omega) hk
      ·
        rw [gs]
        refine w_tabIn X.1 (dflt := 1854) (lo := 0) (hi := 43) (offs := #[192, 265, 293, 321, 334, 374, 435, 484, 524, 564, 616, 656, 708, 748, 776, 816, 844, 872, 900, 913, 926, 954, 982, 1010, 1050, 1063, 1091, 1131, 1159, 1199, 1239, 1279, 1331, 1371, 1399, 1455, 1519, 1599, 1655, 1735, 1775, 1803, 1816, 1829]) (len := 192) (off := 334) (t := 374) (ax_d X (show cdA 350 40 = some (.tableswitch 1854 0 43 #[192, 265, 293, 321, 334, 374, 435, 484, 524, 564, 616, 656, 708, 748, 776, 816, 844, 872, 900, 913, 926, 954, 982, 1010, 1050, 1063, 1091, 1131, 1159, 1199, 1239, 1279, 1331, 1371, 1399, 1455, 1519, 1599, 1655, 1735, 1775, 1803, 1816, 1829], 192, 0, 0, 0) from rfl)) (by decide) (by decide) (by decide) (by decide) ?_
        exact lc_4 G GR SF GT GW X E S hL I jR jFEQ jRWJ jFTK jARJ jPTJ p1 p2 p3 p4 p5 p6 (by omega) (by omega) (by omega) hk
      ·
        rw [gs]
        refine w_tabIn X.1 (dflt := 1854) (lo := 0) (hi := 43) (offs := #[192, 265, 293, 321, 334, 374, 435, 484, 524, 564, 616, 656, 708, 748, 776, 816, 844, 872, 900, 913, 926, 954, 982, 1010, 1050, 1063, 1091, 1131, 1159, 1199, 1239, 1279, 1331, 1371, 1399, 1455, 1519, 1599, 1655, 1735, 1775, 1803, 1816, 1829]) (len := 192) (off := 374) (t := 414) (ax_d X (show cdA 350 40 = some (.tableswitch 1854 0 43 #[192, 265, 293, 321, 334, 374, 435, 484, 524, 564, 616, 656, 708, 748, 776, 816, 844, 872, 900, 913, 926, 954, 982, 1010, 1050, 1063, 1091, 1131, 1159, 1199, 1239, 1279, 1331, 1371, 1399, 1455, 1519, 1599, 1655, 1735, 1775, 1803, 1816, 1829], 192, 0, 0, 0) from rfl)) (by decide) (by decide) (by decide) (by decide) ?_
        exact lc_5 G GR SF GT GW X E S hL I jR jFEQ jRWJ jFTK jARJ jPTJ p1 p2 p3 p4 p5 p6 (by omega) (by omega) (by omega) hk
      ·
        rw [gs]
        refine w_tabIn X.1 (dflt := 1854) (lo := 0) (hi := 43) (offs := #[192, 265, 293, 321, 334, 374, 435, 484, 524, 564, 616, 656, 708, 748, 776, 816, 844, 872, 900, 913, 926, 954, 982, 1010, 1050, 1063, 1091, 1131, 1159, 1199, 1239, 1279, 1331, 1371, 1399, 1455, 1519, 1599, 1655, 1735, 1775, 1803, 1816, 1829]) (len := 192) (off := 435) (t := 475) (ax_d X (show cdA 350 40 = some (.tableswitch 1854 0 43 #[192, 265, 293, 321, 334, 374, 435, 484, 524, 564, 616, 656, 708, 748, 776, 816, 844, 872, 900, 913, 926, 954, 982, 1010, 1050, 1063, 1091, 1131, 1159, 1199, 1239, 1279, 1331, 1371, 1399, 1455, 1519, 1599, 1655, 1735, 1775, 1803, 1816, 1829], 192, 0, 0, 0) from rfl)) (by decide) (by decide) (by decide) (by decide) ?_
        exact lc_6 G GR SF GT GW X E S hL I jR jFEQ jRWJ jFTK jARJ jPTJ p1 p2 p3 p4 p5 p6 (by omega) (by omega) (by omega) hk
      ·
        rw [gs]
        refine w_tabIn X.1 (dflt := 1854) (lo := 0) (hi := 43) (offs := #[192, 265, 293, 321, 334, 374, 435, 484, 524, 564, 616, 656, 708, 748, 776, 816, 844, 872, 900, 913, 926, 954, 982, 1010, 1050, 1063, 1091, 1131, 1159, 1199, 1239, 1279, 1331, 1371, 1399, 1455, 1519, 1599, 1655, 1735, 1775, 1803, 1816, 1829]) (len := 192) (off := 484) (t := 524) (ax_d X (show cdA 350 40 = some (.tableswitch 1854 0 43 #[192, 265, 293, 321, 334, 374, 435, 484, 524, 564, 616, 656, 708, 748, 776, 816, 844, 872, 900, 913, 926, 954, 982, 1010, 1050, 1063, 1091, 1131, 1159, 1199, 1239, 1279, 1331, 1371, 1399, 1455, 1519, 1599, 1655, 1735, 1775, 1803, 1816, 1829], 192, 0, 0, 0) from rfl)) (by decide) (by decide) (by decide) (by decide) ?_
        exact lc_7 G GR SF GT GW X E S hL I jR jFEQ jRWJ jFTK jARJ jPTJ p1 p2 p3 p4 p5 p6 (by omega) (by omega) (by omega) hk
      ·
        rw [gs]
        refine w_tabIn X.1 (dflt := 1854) (lo := 0) (hi := 43) (offs := #[192, 265, 293, 321, 334, 374, 435, 484, 524, 564, 616, 656, 708, 748, 776, 816, 844, 872, 900, 913, 926, 954, 982, 1010, 1050, 1063, 1091, 1131, 1159, 1199, 1239, 1279, 1331, 1371, 1399, 1455, 1519, 1599, 1655, 1735, 1775, 1803, 1816, 1829]) (len := 192) (off := 524) (t := 564) (ax_d X (show cdA 350 40 = some (.tableswitch 1854 0 43 #[192, 265, 293, 321, 334, 374, 435, 484, 524, 564, 616, 656, 708, 748, 776, 816, 844, 872, 900, 913, 926, 954, 982, 1010, 1050, 1063, 1091, 1131, 1159, 1199, 1239, 1279, 1331, 1371, 1399, 1455, 1519, 1599, 1655, 1735, 1775, 1803, 1816, 1829], 192, 0, 0, 0) from rfl)) (by decide) (by decide) (by decide) (by decide) ?_
        exact lc_8 G GR SF GT GW X E S hL I jR jFEQ jRWJ jFTK jARJ jPTJ p1 p2 p3 p4 p5 p6 (by omega) (by omega) (by omega) hk
      ·
        rw [gs]
        refine w_tabIn X.1 (dflt := 1854) (lo := 0) (hi := 43) (offs := #[192, 265, 293, 321, 334, 374, 435, 484, 524, 564, 616, 656, 708, 748, 776, 816, 844, 872, 900, 913, 926, 954, 982, 1010, 1050, 1063, 1091, 1131, 1159, 1199, 1239, 1279, 1331, 1371, 1399, 1455, 1519, 1599, 1655, 1735, 1775, 1803, 1816, 1829]) (len := 192) (off := 564) (t := 604) (ax_d X (show cdA 350 40 = some (.tableswitch 1854 0 43 #[192, 265, 293, 321, 334, 374, 435, 484, 524, 564, 616, 656, 708, 748, 776, 816, 844, 872, 900, 913, 926, 954, 982, 1010, 1050, 1063, 1091, 1131, 1159, 1199, 1239, 1279, 1331, 1371, 1399, 1455, 1519, 1599, 1655, 1735, 1775, 1803, 1816, 1829], 192, 0, 0, 0) from rfl)) (by decide) (by decide) (by decide) (by decide) ?_
        exact lc_9 G GR SF GT GW X E S hL I jR jFEQ jRWJ jFTK jARJ jPTJ p1 p2 p3 p4 p5 p6 (by omega) (by omega) (by omega) hk
      ·
        rw [gs]
        refine w_tabIn X.1 (dflt := 1854) (lo := 0) (hi := 43) (offs := #[192, 265, 293, 321, 334, 374, 435, 484, 524, 564, 616, 656, 708, 748, 776, 816, 844, 872, 900, 913, 926, 954, 982, 1010, 1050, 1063, 1091, 1131, 1159, 1199, 1239, 1279, 1331, 1371, 1399, 1455, 1519, 1599, 1655, 1735, 1775, 1803, 1816, 1829]) (len := 192) (off := 616) (t := 656) (ax_d X (show cdA 350 40 = some (.tableswitch 1854 0 43 #[192, 265, 293, 321, 334, 374, 435, 484, 524, 564, 616, 656, 708, 748, 776, 816, 844, 872, 900, 913, 926, 954, 982, 1010, 1050, 1063, 1091, 1131, 1159, 1199, 1239, 1279, 1331, 1371, 1399, 1455, 1519, 1599, 1655, 1735, 1775, 1803, 1816, 1829], 192, 0, 0, 0) from rfl)) (by decide) (by decide) (by decide) (by decide) ?_
        exact lc_10 G GR SF GT GW X E S hL I jR jFEQ jRWJ jFTK jARJ jPTJ p1 p2 p3 p4 p5 p6 (by omega) (by omega) (by omega) hk
      ·
        rw [gs]
        refine w_tabIn X.1 (dflt := 1854) (lo := 0) (hi := 43) (offs := #[192, 265, 293, 321, 334, 374, 435, 484, 524, 564, 616, 656, 708, 748, 776, 816, 844, 872, 900, 913, 926, 954, 982, 1010, 1050, 1063, 1091, 1131, 1159, 1199, 1239, 1279, 1331, 1371, 1399, 1455, 1519, 1599, 1655, 1735, 1775, 1803, 1816, 1829]) (len := 192) (off := 656) (t := 696) (ax_d X (show cdA 350 40 = some (.tableswitch 1854 0 43 #[192, 265, 293, 321, 334, 374, 435, 484, 524, 564, 616, 656, 708, 748, 776, 816, 844, 872, 900, 913, 926, 954, 982, 1010, 1050, 1063, 1091, 1131, 1159, 1199, 1239, 1279, 1331, 1371, 1399, 1455, 1519, 1599, 1655, 1735, 1775, 1803, 1816, 1829], 192, 0, 0, 0) from rfl)) (by decide) (by decide) (by decide) (by decide) ?_
        exact lc_11 G GR SF GT GW X E S hL I jR jFEQ jRWJ jFTK jARJ jPTJ p1 p2 p3 p4 p5 p6 (by omega) (by omega) (by omega) hk
      ·
        rw [gs]
        refine w_tabIn X.1 (dflt := 1854) (lo := 0) (hi := 43) (offs := #[192, 265, 293, 321, 334, 374, 435, 484, 524, 564, 616, 656, 708, 748, 776, 816, 844, 872, 900, 913, 926, 954, 982, 1010, 1050, 1063, 1091, 1131, 1159, 1199, 1239, 1279, 1331, 1371, 1399, 1455, 1519, 1599, 1655, 1735, 1775, 1803, 1816, 1829]) (len := 192) (off := 708) (t := 748) (ax_d X (show cdA 350 40 = some (.tableswitch 1854 0 43 #[192, 265, 293, 321, 334, 374, 435, 484, 524, 564, 616, 656, 708, 748, 776, 816, 844, 872, 900, 913, 926, 954, 982, 1010, 1050, 1063, 1091, 1131, 1159, 1199, 1239, 1279, 1331, 1371, 1399, 1455, 1519, 1599, 1655, 1735, 1775, 1803, 1816, 1829], 192, 0, 0, 0) from rfl)) (by decide) (by decide) (by decide) (by decide) ?_
        exact lc_12 G GR SF GT GW X E S hL I jR jFEQ jRWJ jFTK jARJ jPTJ p1 p2 p3 p4 p5 p6 (by omega) (by omega) (by omega) hk
      ·
        rw [gs]
        refine w_tabIn X.1 (dflt := 1854) (lo := 0) (hi := 43) (offs := #[192, 265, 293, 321, 334, 374, 435, 484, 524, 564, 616, 656, 708, 748, 776, 816, 844, 872, 900, 913, 926, 954, 982, 1010, 1050, 1063, 1091, 1131, 1159, 1199, 1239, 1279, 1331, 1371, 1399, 1455, 1519, 1599, 1655, 1735, 1775, 1803, 1816, 1829]) (len := 192) (off := 748) (t := 788) (ax_d X (show cdA 350 40 = some (.tableswitch 1854 0 43 #[192, 265, 293, 321, 334, 374, 435, 484, 524, 564, 616, 656, 708, 748, 776, 816, 844, 872, 900, 913, 926, 954, 982, 1010, 1050, 1063, 1091, 1131, 1159, 1199, 1239, 1279, 1331, 1371, 1399, 1455, 1519, 1599, 1655, 1735, 1775, 1803, 1816, 1829], 192, 0, 0, 0) from rfl)) (by decide) (by decide) (by decide) (by decide) ?_
        exact lc_13 G GR SF GT GW X E S hL I jR jFEQ jRWJ jFTK jARJ jPTJ p1 p2 p3 p4 p5 p6 (by omega) (by omega) (by omega) hk
      ·
        rw [gs]
        refine w_tabIn X.1 (dflt := 1854) (lo := 0) (hi := 43) (offs := #[192, 265, 293, 321, 334, 374, 435, 484, 524, 564, 616, 656, 708, 748, 776, 816, 844, 872, 900, 913, 926, 954, 982, 1010, 1050, 1063, 1091, 1131, 1159, 1199, 1239, 1279, 1331, 1371, 1399, 1455, 1519, 1599, 1655, 1735, 1775, 1803, 1816, 1829]) (len := 192) (off := 776) (t := 816) (ax_d X (show cdA 350 40 = some (.tableswitch 1854 0 43 #[192, 265, 293, 321, 334, 374, 435, 484, 524, 564, 616, 656, 708, 748, 776, 816, 844, 872, 900, 913, 926, 954, 982, 1010, 1050, 1063, 1091, 1131, 1159, 1199, 1239, 1279, 1331, 1371, 1399, 1455, 1519, 1599, 1655, 1735, 1775, 1803, 1816, 1829], 192, 0, 0, 0) from rfl)) (by decide) (by decide) (by decide) (by decide) ?_
        exact lc_14 G GR SF GT GW X E S hL I jR jFEQ jRWJ jFTK jARJ jPTJ p1 p2 p3 p4 p5 p6 (by omega) (by omega) (by omega) hk
      ·
        rw [gs]
        refine w_tabIn X.1 (dflt := 1854) (lo := 0) (hi := 43) (offs := #[192, 265, 293, 321, 334, 374, 435, 484, 524, 564, 616, 656, 708, 748, 776, 816, 844, 872, 900, 913, 926, 954, 982, 1010, 1050, 1063, 1091, 1131, 1159, 1199, 1239, 1279, 1331, 1371, 1399, 1455, 1519, 1599, 1655, 1735, 1775, 1803, 1816, 1829]) (len := 192) (off := 816) (t := 856) (ax_d X (show cdA 350 40 = some (.tableswitch 1854 0 43 #[192, 265, 293, 321, 334, 374, 435, 484, 524, 564, 616, 656, 708, 748, 776, 816, 844, 872, 900, 913, 926, 954, 982, 1010, 1050, 1063, 1091, 1131, 1159, 1199, 1239, 1279, 1331, 1371, 1399, 1455, 1519, 1599, 1655, 1735, 1775, 1803, 1816, 1829], 192, 0, 0, 0) from rfl)) (by decide) (by decide) (by decide) (by decide) ?_
        exact lc_15 G GR SF GT GW X E S hL I jR jFEQ jRWJ jFTK jARJ jPTJ p1 p2 p3 p4 p5 p6 (by omega) (by omega) (by omega) hk
      ·
        rw [gs]
        refine w_tabIn X.1 (dflt := 1854) (lo := 0) (hi := 43) (offs := #[192, 265, 293, 321, 334, 374, 435, 484, 524, 564, 616, 656, 708, 748, 776, 816, 844, 872, 900, 913, 926, 954, 982, 1010, 1050, 1063, 1091, 1131, 1159, 1199, 1239, 1279, 1331, 1371, 1399, 1455, 1519, 1599, 1655, 1735, 1775, 1803, 1816, 1829]) (len := 192) (off := 844) (t := 884) (ax_d X (show cdA 350 40 = some (.tableswitch 1854 0 43 #[192, 265, 293, 321, 334, 374, 435, 484, 524, 564, 616, 656, 708, 748, 776, 816, 844, 872, 900, 913, 926, 954, 982, 1010, 1050, 1063, 1091, 1131, 1159, 1199, 1239, 1279, 1331, 1371, 1399, 1455, 1519, 1599, 1655, 1735, 1775, 1803, 1816, 1829], 192, 0, 0, 0) from rfl)) (by decide) (by decide) (by decide) (by decide) ?_
        exact lc_16 G GR SF GT GW X E S hL I jR jFEQ jRWJ jFTK jARJ jPTJ p1 p2 p3 p4 p5 p6 (by omega) (by omega) (by omega) hk
      ·
        rw [gs]
        refine w_tabIn X.1 (dflt := 1854) (lo := 0) (hi := 43) (offs := #[192, 265, 293, 321, 334, 374, 435, 484, 524, 564, 616, 656, 708, 748, 776, 816, 844, 872, 900, 913, 926, 954, 982, 1010, 1050, 1063, 1091, 1131, 1159, 1199, 1239, 1279, 1331, 1371, 1399, 1455, 1519, 1599, 1655, 1735, 1775, 1803, 1816, 1829]) (len := 192) (off := 872) (t := 912) (ax_d X (show cdA 350 40 = some (.tableswitch 1854 0 43 #[192, 265, 293, 321, 334, 374, 435, 484, 524, 564, 616, 656, 708, 748, 776, 816, 844, 872, 900, 913, 926, 954, 982, 1010, 1050, 1063, 1091, 1131, 1159, 1199, 1239, 1279, 1331, 1371, 1399, 1455, 1519, 1599, 1655, 1735, 1775, 1803, 1816, 1829], 192, 0, 0, 0) from rfl)) (by decide) (by decide) (by decide) (by decide) ?_
        exact lc_17 G GR SF GT GW X E S hL I jR jFEQ jRWJ jFTK jARJ jPTJ p1 p2 p3 p4 p5 p6 (by omega) (by omega) (by omega) hk
      ·
        rw [gs]
        refine w_tabIn X.1 (dflt := 1854) (lo := 0) (hi := 43) (offs := #[192, 265, 293, 321, 334, 374, 435, 484, 524, 564, 616, 656, 708, 748, 776, 816, 844, 872, 900, 913, 926, 954, 982, 1010, 1050, 1063, 1091, 1131, 1159, 1199, 1239, 1279, 1331, 1371, 1399, 1455, 1519, 1599, 1655, 1735, 1775, 1803, 1816, 1829]) (len := 192) (off := 900) (t := 940) (ax_d X (show cdA 350 40 = some (.tableswitch 1854 0 43 #[192, 265, 293, 321, 334, 374, 435, 484, 524, 564, 616, 656, 708, 748, 776, 816, 844, 872, 900, 913, 926, 954, 982, 1010, 1050, 1063, 1091, 1131, 1159, 1199, 1239, 1279, 1331, 1371, 1399, 1455, 1519, 1599, 1655, 1735, 1775, 1803, 1816, 1829], 192, 0, 0, 0) from rfl)) (by decide) (by decide) (by decide) (by decide) ?_
        exact lc_18 G GR SF GT GW X E S hL I jR jFEQ jRWJ jFTK jARJ jPTJ p1 p2 p3 p4 p5 p6 (by omega) (by omega) (by omega) hk
      ·
        rw [gs]
        refine w_tabIn X.1 (dflt := 1854) (lo := 0) (hi := 43) (offs := #[192, 265, 293, 321, 334, 374, 435, 484, 524, 564, 616, 656, 708, 748, 776, 816, 844, 872, 900, 913, 926, 954, 982, 1010, 1050, 1063, 1091, 1131, 1159, 1199, 1239, 1279, 1331, 1371, 1399, 1455, 1519, 1599, 1655, 1735, 1775, 1803, 1816, 1829]) (len := 192) (off := 913) (t := 953) (ax_d X (show cdA 350 40 = some (.tableswitch 1854 0 43 #[192, 265, 293, 321, 334, 374, 435, 484, 524, 564, 616, 656, 708, 748, 776, 816, 844, 872, 900, 913, 926, 954, 982, 1010, 1050, 1063, 1091, 1131, 1159, 1199, 1239, 1279, 1331, 1371, 1399, 1455, 1519, 1599, 1655, 1735, 1775, 1803, 1816, 1829], 192, 0, 0, 0) from rfl)) (by decide) (by decide) (by decide) (by decide) ?_
        exact lc_19 G GR SF GT GW X E S hL I jR jFEQ jRWJ jFTK jARJ jPTJ p1 p2 p3 p4 p5 p6 (by omega) (by omega) (by omega) hk
      ·
        rw [gs]
        refine w_tabIn X.1 (dflt := 1854) (lo := 0) (hi := 43) (offs := #[192, 265, 293, 321, 334, 374, 435, 484, 524, 564, 616, 656, 708, 748, 776, 816, 844, 872, 900, 913, 926, 954, 982, 1010, 1050, 1063, 1091, 1131, 1159, 1199, 1239, 1279, 1331, 1371, 1399, 1455, 1519, 1599, 1655, 1735, 1775, 1803, 1816, 1829]) (len := 192) (off := 926) (t := 966) (ax_d X (show cdA 350 40 = some (.tableswitch 1854 0 43 #[192, 265, 293, 321, 334, 374, 435, 484, 524, 564, 616, 656, 708, 748, 776, 816, 844, 872, 900, 913, 926, 954, 982, 1010, 1050, 1063, 1091, 1131, 1159, 1199, 1239, 1279, 1331, 1371, 1399, 1455, 1519, 1599, 1655, 1735, 1775, 1803, 1816, 1829], 192, 0, 0, 0) from rfl)) (by decide) (by decide) (by decide) (by decide) ?_
        exact lc_20 G GR SF GT GW X E S hL I jR jFEQ jRWJ jFTK jARJ jPTJ p1 p2 p3 p4 p5 p6 (by omega) (by omega) (by omega) hk
      ·
        rw [gs]
        refine w_tabIn X.1 (dflt := 1854) (lo := 0) (hi := 43) (offs := #[192, 265, 293, 321, 334, 374, 435, 484, 524, 564, 616, 656, 708, 748, 776, 816, 844, 872, 900, 913, 926, 954, 982, 1010, 1050, 1063, 1091, 1131, 1159, 1199, 1239, 1279, 1331, 1371, 1399, 1455, 1519, 1599, 1655, 1735, 1775, 1803, 1816, 1829]) (len := 192) (off := 954) (t := 994) (ax_d X (show cdA 350 40 = some (.tableswitch 1854 0 43 #[192, 265, 293, 321, 334, 374, 435, 484, 524, 564, 616, 656, 708, 748, 776, 816, 844, 872, 900, 913, 926, 954, 982, 1010, 1050, 1063, 1091, 1131, 1159, 1199, 1239, 1279, 1331, 1371, 1399, 1455, 1519, 1599, 1655, 1735, 1775, 1803, 1816, 1829], 192, 0, 0, 0) from rfl)) (by decide) (by decide) (by decide) (by decide) ?_
        exact lc_21 G GR SF GT GW X E S hL I jR jFEQ jRWJ jFTK jARJ jPTJ p1 p2 p3 p4 p5 p6 (by omega) (by omega) (by omega) hk
      ·
        rw [gs]
        refine w_tabIn X.1 (dflt := 1854) (lo := 0) (hi := 43) (offs := #[192, 265, 293, 321, 334, 374, 435, 484, 524, 564, 616, 656, 708, 748, 776, 816, 844, 872, 900, 913, 926, 954, 982, 1010, 1050, 1063, 1091, 1131, 1159, 1199, 1239, 1279, 1331, 1371, 1399, 1455, 1519, 1599, 1655, 1735, 1775, 1803, 1816, 1829]) (len := 192) (off := 982) (t := 1022) (ax_d X (show cdA 350 40 = some (.tableswitch 1854 0 43 #[192, 265, 293, 321, 334, 374, 435, 484, 524, 564, 616, 656, 708, 748, 776, 816, 844, 872, 900, 913, 926, 954, 982, 1010, 1050, 1063, 1091, 1131, 1159, 1199, 1239, 1279, 1331, 1371, 1399, 1455, 1519, 1599, 1655, 1735, 1775, 1803, 1816, 1829], 192, 0, 0, 0) from rfl)) (by decide) (by decide) (by decide) (by decide) ?_
        exact lc_22 G GR SF GT GW X E S hL I jR jFEQ jRWJ jFTK jARJ jPTJ p1 p2 p3 p4 p5 p6 (by omega) (by omega) (by omega) hk
      ·
        rw [gs]
        refine w_tabIn X.1 (dflt := 1854) (lo := 0) (hi := 43) (offs := #[192, 265, 293, 321, 334, 374, 435, 484, 524, 564, 616, 656, 708, 748, 776, 816, 844, 872, 900, 913, 926, 954, 982, 1010, 1050, 1063, 1091, 1131, 1159, 1199, 1239, 1279, 1331, 1371, 1399, 1455, 1519, 1599, 1655, 1735, 1775, 1803, 1816, 1829]) (len := 192) (off := 1010) (t := 1050) (ax_d X (show cdA 350 40 = some (.tableswitch 1854 0 43 #[192, 265, 293, 321, 334, 374, 435, 484, 524, 564, 616, 656, 708, 748, 776, 816, 844, 872, 900, 913, 926, 954, 982, 1010, 1050, 1063, 1091, 1131, 1159, 1199, 1239, 1279, 1331, 1371, 1399, 1455, 1519, 1599, 1655, 1735, 1775, 1803, 1816, 1829], 192, 0, 0, 0) from rfl)) (by decide) (by decide) (by decide) (by decide) ?_
        exact lc_23 G GR SF GT GW X E S hL I jR jFEQ jRWJ jFTK jARJ jPTJ p1 p2 p3 p4 p5 p6 (by omega) (by omega) (by omega) hk
      ·
        rw [gs]
        refine w_tabIn X.1 (dflt := 1854) (lo := 0) (hi := 43) (offs := #[192, 265, 293, 321, 334, 374, 435, 484, 524, 564, 616, 656, 708, 748, 776, 816, 844, 872, 900, 913, 926, 954, 982, 1010, 1050, 1063, 1091, 1131, 1159, 1199, 1239, 1279, 1331, 1371, 1399, 1455, 1519, 1599, 1655, 1735, 1775, 1803, 1816, 1829]) (len := 192) (off := 1050) (t := 1090) (ax_d X (show cdA 350 40 = some (.tableswitch 1854 0 43 #[192, 265, 293, 321, 334, 374, 435, 484, 524, 564, 616, 656, 708, 748, 776, 816, 844, 872, 900, 913, 926, 954, 982, 1010, 1050, 1063, 1091, 1131, 1159, 1199, 1239, 1279, 1331, 1371, 1399, 1455, 1519, 1599, 1655, 1735, 1775, 1803, 1816, 1829], 192, 0, 0, 0) from rfl)) (by decide) (by decide) (by decide) (by decide) ?_
        exact lc_24 G GR SF GT GW X E S hL I jR jFEQ jRWJ jFTK jARJ jPTJ p1 p2 p3 p4 p5 p6 (by omega) (by omega) (by omega) hk
      ·
        rw [gs]
        refine w_tabIn X.1 (dflt := 1854) (lo := 0) (hi := 43) (offs := #[192, 265, 293, 321, 334, 374, 435, 484, 524, 564, 616, 656, 708, 748, 776, 816, 844, 872, 900, 913, 926, 954, 982, 1010, 1050, 1063, 1091, 1131, 1159, 1199, 1239, 1279, 1331, 1371, 1399, 1455, 1519, 1599, 1655, 1735, 1775, 1803, 1816, 1829]) (len := 192) (off := 1063) (t := 1103) (ax_d X (show cdA 350 40 = some (.tableswitch 1854 0 43 #[192, 265, 293, 321, 334, 374, 435, 484, 524, 564, 616, 656, 708, 748, 776, 816, 844, 872, 900, 913, 926, 954, 982, 1010, 1050, 1063, 1091, 1131, 1159, 1199, 1239, 1279, 1331, 1371, 1399, 1455, 1519, 1599, 1655, 1735, 1775, 1803, 1816, 1829], 192, 0, 0, 0) from rfl)) (by decide) (by decide) (by decide) (by decide) ?_
        exact lc_25 G GR SF GT GW X E S hL I jR jFEQ jRWJ jFTK jARJ jPTJ p1 p2 p3 p4 p5 p6 (by omega) (by omega) (by omega) hk
      ·
        rw [gs]
        refine w_tabIn X.1 (dflt := 1854) (lo := 0) (hi := 43) (offs := #[192, 265, 293, 321, 334, 374, 435, 484, 524, 564, 616, 656, 708, 748, 776, 816, 844, 872, 900, 913, 926, 954, 982, 1010, 1050, 1063, 1091, 1131, 1159, 1199, 1239, 1279, 1331, 1371, 1399, 1455, 1519, 1599, 1655, 1735, 1775, 1803, 1816, 1829]) (len := 192) (off := 1091) (t := 1131) (ax_d X (show cdA 350 40 = some (.tableswitch 1854 0 43 #[192, 265, 293, 321, 334, 374, 435, 484, 524, 564, 616, 656, 708, 748, 776, 816, 844, 872, 900, 913, 926, 954, 982, 1010, 1050, 1063, 1091, 1131, 1159, 1199, 1239, 1279, 1331, 1371, 1399, 1455, 1519, 1599, 1655, 1735, 1775, 1803, 1816, 1829], 192, 0, 0, 0) from rfl)) (by decide) (by decide) (by decide) (by decide) ?_
        exact lc_26 G GR SF GT GW X E S hL I jR jFEQ jRWJ jFTK jARJ jPTJ p1 p2 p3 p4 p5 p6 (by omega) (by omega) (by omega) hk
      ·
        rw [gs]
        refine w_tabIn X.1 (dflt := 1854) (lo := 0) (hi := 43) (offs := #[192, 265, 293, 321, 334, 374, 435, 484, 524, 564, 616, 656, 708, 748, 776, 816, 844, 872, 900, 913, 926, 954, 982, 1010, 1050, 1063, 1091, 1131, 1159, 1199, 1239, 1279, 1331, 1371, 1399, 1455, 1519, 1599, 1655, 1735, 1775, 1803, 1816, 1829]) (len := 192) (off := 1131) (t := 1171) (ax_d X (show cdA 350 40 = some (.tableswitch 1854 0 43 #[192, 265, 293, 321, 334, 374, 435, 484, 524, 564, 616, 656, 708, 748, 776, 816, 844, 872, 900, 913, 926, 954, 982, 1010, 1050, 1063, 1091, 1131, 1159, 1199, 1239, 1279, 1331, 1371, 1399, 1455, 1519, 1599, 1655, 1735, 1775, 1803, 1816, 1829], 192, 0, 0, 0) from rfl)) (by decide) (by decide) (by decide) (by decide) ?_
        exact lc_27 G GR SF GT GW X E S hL I jR jFEQ jRWJ jFTK jARJ jPTJ p1 p2 p3 p4 p5 p6 (by omega) (by omega) (by omega) hk
      ·
        rw [gs]
        refine w_tabIn X.1 (dflt := 1854) (lo := 0) (hi := 43) (offs := #[192, 265, 293, 321, 334, 374, 435, 484, 524, 564, 616, 656, 708, 748, 776, 816, 844, 872, 900, 913, 926, 954, 982, 1010, 1050, 1063, 1091, 1131, 1159, 1199, 1239, 1279, 1331, 1371, 1399, 1455, 1519, 1599, 1655, 1735, 1775, 1803, 1816, 1829]) (len := 192) (off := 1159) (t := 1199) (ax_d X (show cdA 350 40 = some (.tableswitch 1854 0 43 #[192, 265, 293, 321, 334, 374, 435, 484, 524, 564, 616, 656, 708, 748, 776, 816, 844, 872, 900, 913, 926, 954, 982, 1010, 1050, 1063, 1091, 1131, 1159, 1199, 1239, 1279, 1331, 1371, 1399, 1455, 1519, 1599, 1655, 1735, 1775, 1803, 1816, 1829], 192, 0, 0, 0) from rfl)) (by decide) (by decide) (by decide) (by decide) ?_
        exact lc_28 G GR SF GT GW X E S hL I jR jFEQ jRWJ jFTK jARJ jPTJ p1 p2 p3 p4 p5 p6 (by omega) (by omega) (by omega) hk
      ·
        rw [gs]
        refine w_tabIn X.1 (dflt := 1854) (lo := 0) (hi := 43) (offs := #[192, 265, 293, 321, 334, 374, 435, 484, 524, 564, 616, 656, 708, 748, 776, 816, 844, 872, 900, 913, 926, 954, 982, 1010, 1050, 1063, 1091, 1131, 1159, 1199, 1239, 1279, 1331, 1371, 1399, 1455, 1519, 1599, 1655, 1735, 1775, 1803, 1816, 1829]) (len := 192) (off := 1199) (t := 1239) (ax_d X (show cdA 350 40 = some (.tableswitch 1854 0 43 #[192, 265, 293, 321, 334, 374, 435, 484, 524, 564, 616, 656, 708, 748, 776, 816, 844, 872, 900, 913, 926, 954, 982, 1010, 1050, 1063, 1091, 1131, 1159, 1199, 1239, 1279, 1331, 1371, 1399, 1455, 1519, 1599, 1655, 1735, 1775, 1803, 1816, 1829], 192, 0, 0, 0) from rfl)) (by decide) (by decide) (by decide) (by decide) ?_
        exact lc_29 G GR SF GT GW X E S hL I jR jFEQ jRWJ jFTK jARJ jPTJ p1 p2 p3 p4 p5 p6 (by omega) (by omega) (by omega) hk
      ·
        rw [gs]
        refine w_tabIn X.1 (dflt := 1854) (lo := 0) (hi := 43) (offs := #[192, 265, 293, 321, 334, 374, 435, 484, 524, 564, 616, 656, 708, 748, 776, 816, 844, 872, 900, 913, 926, 954, 982, 1010, 1050, 1063, 1091, 1131, 1159, 1199, 1239, 1279, 1331, 1371, 1399, 1455, 1519, 1599, 1655, 1735, 1775, 1803, 1816, 1829]) (len := 192) (off := 1239) (t := 1279) (ax_d X (show cdA 350 40 = some (.tableswitch 1854 0 43 #[192, 265, 293, 321, 334, 374, 435, 484, 524, 564, 616, 656, 708, 748, 776, 816, 844, 872, 900, 913, 926, 954, 982, 1010, 1050, 1063, 1091, 1131, 1159, 1199, 1239, 1279, 1331, 1371, 1399, 1455, 1519, 1599, 1655, 1735, 1775, 1803, 1816, 1829], 192, 0, 0, 0) from rfl)) (by decide) (by decide) (by decide) (by decide) ?_
        exact lc_30 G GR SF GT GW X E S hL I jR jFEQ jRWJ jFTK jARJ jPTJ p1 p2 p3 p4 p5 p6 (by omega) (by omega) (by omega) hk
      ·
        rw [gs]
        refine w_tabIn X.1 (dflt := 1854) (lo := 0) (hi := 43) (offs := #[192, 265, 293, 321, 334, 374, 435, 484, 524, 564, 616, 656, 708, 748, 776, 816, 844, 872, 900, 913, 926, 954, 982, 1010, 1050, 1063, 1091, 1131, 1159, 1199, 1239, 1279, 1331, 1371, 1399, 1455, 1519, 1599, 1655, 1735, 1775, 1803, 1816, 1829]) (len := 192) (off := 1279) (t := 1319) (ax_d X (show cdA 350 40 = some (.tableswitch 1854 0 43 #[192, 265, 293, 321, 334, 374, 435, 484, 524, 564, 616, 656, 708, 748, 776, 816, 844, 872, 900, 913, 926, 954, 982, 1010, 1050, 1063, 1091, 1131, 1159, 1199, 1239, 1279, 1331, 1371, 1399, 1455, 1519, 1599, 1655, 1735, 1775, 1803, 1816, 1829], 192, 0, 0, 0) from rfl)) (by decide) (by decide) (by decide) (by decide) ?_
        exact lc_31 G GR SF GT GW X E S hL I jR jFEQ jRWJ jFTK jARJ jPTJ p1 p2 p3 p4 p5 p6 (by omega) (by omega) (by omega) hk
      ·
        rw [gs]
        refine w_tabIn X.1 (dflt := 1854) (lo := 0) (hi := 43) (offs := #[192, 265, 293, 321, 334, 374, 435, 484, 524, 564, 616, 656, 708, 748, 776, 816, 844, 872, 900, 913, 926, 954, 982, 1010, 1050, 1063, 1091, 1131, 1159, 1199, 1239, 1279, 1331, 1371, 1399, 1455, 1519, 1599, 1655, 1735, 1775, 1803, 1816, 1829]) (len := 192) (off := 1331) (t := 1371) (ax_d X (show cdA 350 40 = some (.tableswitch 1854 0 43 #[192, 265, 293, 321, 334, 374, 435, 484, 524, 564, 616, 656, 708, 748, 776, 816, 844, 872, 900, 913, 926, 954, 982, 1010, 1050, 1063, 1091, 1131, 1159, 1199, 1239, 1279, 1331, 1371, 1399, 1455, 1519, 1599, 1655, 1735, 1775, 1803, 1816, 1829], 192, 0, 0, 0) from rfl)) (by decide) (by decide) (by decide) (by decide) ?_
        exact lc_32 G GR SF GT GW X E S hL I jR jFEQ jRWJ jFTK jARJ jPTJ p1 p2 p3 p4 p5 p6 (by omega) (by omega) (by omega) hk
      ·
        rw [gs]
        refine w_tabIn X.1 (dflt := 1854) (lo := 0) (hi := 43) (offs := #[192, 265, 293, 321, 334, 374, 435, 484, 524, 564, 616, 656, 708, 748, 776, 816, 844, 872, 900, 913, 926, 954, 982, 1010, 1050, 1063, 1091, 1131, 1159, 1199, 1239, 1279, 1331, 1371, 1399, 1455, 1519, 1599, 1655, 1735, 1775, 1803, 1816, 1829]) (len := 192) (off := 1371) (t := 1411) (ax_d X (show cdA 350 40 = some (.tableswitch 1854 0 43 #[192, 265, 293, 321, 334, 374, 435, 484, 524, 564, 616, 656, 708, 748, 776, 816, 844, 872, 900, 913, 926, 954, 982, 1010, 1050, 1063, 1091, 1131, 1159, 1199, 1239, 1279, 1331, 1371, 1399, 1455, 1519, 1599, 1655, 1735, 1775, 1803, 1816, 1829], 192, 0, 0, 0) from rfl)) (by decide) (by decide) (by decide) (by decide) ?_
        exact lc_33 G GR SF GT GW X E S hL I jR jFEQ jRWJ jFTK jARJ jPTJ p1 p2 p3 p4 p5 p6 (by omega) (by omega) (by omega) hk
      ·
        rw [gs]
        refine w_tabIn X.1 (dflt := 1854) (lo := 0) (hi := 43) (offs := #[192, 265, 293, 321, 334, 374, 435, 484, 524, 564, 616, 656, 708, 748, 776, 816, 844, 872, 900, 913, 926, 954, 982, 1010, 1050, 1063, 1091, 1131, 1159, 1199, 1239, 1279, 1331, 1371, 1399, 1455, 1519, 1599, 1655, 1735, 1775, 1803, 1816, 1829]) (len := 192) (off := 1399) (t := 1439) (ax_d X (show cdA 350 40 = some (.tableswitch 1854 0 43 #[192, 265, 293, 321, 334, 374, 435, 484, 524, 564, 616, 656, 708, 748, 776, 816, 844, 872, 900, 913, 926, 954, 982, 1010, 1050, 1063, 1091, 1131, 1159, 1199, 1239, 1279, 1331, 1371, 1399, 1455, 1519, 1599, 1655, 1735, 1775, 1803, 1816, 1829], 192, 0, 0, 0) from rfl)) (by decide) (by decide) (by decide) (by decide) ?_
        exact lc_34 G GR SF GT GW X E S hL I jR jFEQ jRWJ jFTK jARJ jPTJ p1 p2 p3 p4 p5 p6 (by omega) (by omega) (by omega) hk
      ·
        rw [gs]
        refine w_tabIn X.1 (dflt := 1854) (lo := 0) (hi := 43) (offs := #[192, 265, 293, 321, 334, 374, 435, 484, 524, 564, 616, 656, 708, 748, 776, 816, 844, 872, 900, 913, 926, 954, 982, 1010, 1050, 1063, 1091, 1131, 1159, 1199, 1239, 1279, 1331, 1371, 1399, 1455, 1519, 1599, 1655, 1735, 1775, 1803, 1816, 1829]) (len := 192) (off := 1455) (t := 1495) (ax_d X (show cdA 350 40 = some (.tableswitch 1854 0 43 #[192, 265, 293, 321, 334, 374, 435, 484, 524, 564, 616, 656, 708, 748, 776, 816, 844, 872, 900, 913, 926, 954, 982, 1010, 1050, 1063, 1091, 1131, 1159, 1199, 1239, 1279, 1331, 1371, 1399, 1455, 1519, 1599, 1655, 1735, 1775, 1803, 1816, 1829], 192, 0, 0, 0) from rfl)) (by decide) (by decide) (by decide) (by decide) ?_
        exact lc_35 G GR SF GT GW X E S hL I jR jFEQ jRWJ jFTK jARJ jPTJ p1 p2 p3 p4 p5 p6 (by omega) (by omega) (by omega) hk
      ·
        rw [gs]
        refine w_tabIn X.1 (dflt := 1854) (lo := 0) (hi := 43) (offs := #[192, 265, 293, 321, 334, 374, 435, 484, 524, 564, 616, 656, 708, 748, 776, 816, 844, 872, 900, 913, 926, 954, 982, 1010, 1050, 1063, 1091, 1131, 1159, 1199, 1239, 1279, 1331, 1371, 1399, 1455, 1519, 1599, 1655, 1735, 1775, 1803, 1816, 1829]) (len := 192) (off := 1519) (t := 1559) (ax_d X (show cdA 350 40 = some (.tableswitch 1854 0 43 #[192, 265, 293, 321, 334, 374, 435, 484, 524, 564, 616, 656, 708, 748, 776, 816, 844, 872, 900, 913, 926, 954, 982, 1010, 1050, 1063, 1091, 1131, 1159, 1199, 1239, 1279, 1331, 1371, 1399, 1455, 1519, 1599, 1655, 1735, 1775, 1803, 1816, 1829], 192, 0, 0, 0) from rfl)) (by decide) (by decide) (by decide) (by decide) ?_
        exact lc_36 G GR SF GT GW X E S hL I jR jFEQ jRWJ jFTK jARJ jPTJ p1 p2 p3 p4 p5 p6 (by omega) (by omega) (by omega) hk
      ·
        rw [gs]
        refine w_tabIn X.1 (dflt := 1854) (lo := 0) (hi := 43) (offs := #[192, 265, 293, 321, 334, 374, 435, 484, 524, 564, 616, 656, 708, 748, 776, 816, 844, 872, 900, 913, 926, 954, 982, 1010, 1050, 1063, 1091, 1131, 1159, 1199, 1239, 1279, 1331, 1371, 1399, 1455, 1519, 1599, 1655, 1735, 1775, 1803, 1816, 1829]) (len := 192) (off := 1599) (t := 1639) (ax_d X (show cdA 350 40 = some (.tableswitch 1854 0 43 #[192, 265, 293, 321, 334, 374, 435, 484, 524, 564, 616, 656, 708, 748, 776, 816, 844, 872, 900, 913, 926, 954, 982, 1010, 1050, 1063, 1091, 1131, 1159, 1199, 1239, 1279, 1331, 1371, 1399, 1455, 1519, 1599, 1655, 1735, 1775, 1803, 1816, 1829], 192, 0, 0, 0) from rfl)) (by decide) (by decide) (by decide) (by decide) ?_
        exact lc_37 G GR SF GT GW X E S hL I jR jFEQ jRWJ jFTK jARJ jPTJ p1 p2 p3 p4 p5 p6 (by omega) (by omega) (by omega) hk
      ·
        rw [gs]
        refine w_tabIn X.1 (dflt := 1854) (lo := 0) (hi := 43) (offs := #[192, 265, 293, 321, 334, 374, 435, 484, 524, 564, 616, 656, 708, 748, 776, 816, 844, 872, 900, 913, 926, 954, 982, 1010, 1050, 1063, 1091, 1131, 1159, 1199, 1239, 1279, 1331, 1371, 1399, 1455, 1519, 1599, 1655, 1735, 1775, 1803, 1816, 1829]) (len := 192) (off := 1655) (t := 1695) (ax_d X (show cdA 350 40 = some (.tableswitch 1854 0 43 #[192, 265, 293, 321, 334, 374, 435, 484, 524, 564, 616, 656, 708, 748, 776, 816, 844, 872, 900, 913, 926, 954, 982, 1010, 1050, 1063, 1091, 1131, 1159, 1199, 1239, 1279, 1331, 1371, 1399, 1455, 1519, 1599, 1655, 1735, 1775, 1803, 1816, 1829], 192, 0, 0, 0) from rfl)) (by decide) (by decide) (by decide) (by decide) ?_
        exact lc_38 G GR SF GT GW X E S hL I jR jFEQ jRWJ jFTK jARJ jPTJ p1 p2 p3 p4 p5 p6 (by omega) (by omega) (by omega) hk
      ·
        rw [gs]
        refine w_tabIn X.1 (dflt := 1854) (lo := 0) (hi := 43) (offs := #[192, 265, 293, 321, 334, 374, 435, 484, 524, 564, 616, 656, 708, 748, 776, 816, 844, 872, 900, 913, 926, 954, 982, 1010, 1050, 1063, 1091, 1131, 1159, 1199, 1239, 1279, 1331, 1371, 1399, 1455, 1519, 1599, 1655, 1735, 1775, 1803, 1816, 1829]) (len := 192) (off := 1735) (t := 1775) (ax_d X (show cdA 350 40 = some (.tableswitch 1854 0 43 #[192, 265, 293, 321, 334, 374, 435, 484, 524, 564, 616, 656, 708, 748, 776, 816, 844, 872, 900, 913, 926, 954, 982, 1010, 1050, 1063, 1091, 1131, 1159, 1199, 1239, 1279, 1331, 1371, 1399, 1455, 1519, 1599, 1655, 1735, 1775, 1803, 1816, 1829], 192, 0, 0, 0) from rfl)) (by decide) (by decide) (by decide) (by decide) ?_
        exact lc_39 G GR SF GT GW X E S hL I jR jFEQ jRWJ jFTK jARJ jPTJ p1 p2 p3 p4 p5 p6 (by omega) (by omega) (by omega) hk
      ·
        rw [gs]
        refine w_tabIn X.1 (dflt := 1854) (lo := 0) (hi := 43) (offs := #[192, 265, 293, 321, 334, 374, 435, 484, 524, 564, 616, 656, 708, 748, 776, 816, 844, 872, 900, 913, 926, 954, 982, 1010, 1050, 1063, 1091, 1131, 1159, 1199, 1239, 1279, 1331, 1371, 1399, 1455, 1519, 1599, 1655, 1735, 1775, 1803, 1816, 1829]) (len := 192) (off := 1775) (t := 1815) (ax_d X (show cdA 350 40 = some (.tableswitch 1854 0 43 #[192, 265, 293, 321, 334, 374, 435, 484, 524, 564, 616, 656, 708, 748, 776, 816, 844, 872, 900, 913, 926, 954, 982, 1010, 1050, 1063, 1091, 1131, 1159, 1199, 1239, 1279, 1331, 1371, 1399, 1455, 1519, 1599, 1655, 1735, 1775, 1803, 1816, 1829], 192, 0, 0, 0) from rfl)) (by decide) (by decide) (by decide) (by decide) ?_
        exact lc_40 G GR SF GT GW X E S hL I jR jFEQ jRWJ jFTK jARJ jPTJ p1 p2 p3 p4 p5 p6 (by omega) (by omega) (by omega) hk
      ·
        rw [gs]
        refine w_tabIn X.1 (dflt := 1854) (lo := 0) (hi := 43) (offs := #[192, 265, 293, 321, 334, 374, 435, 484, 524, 564, 616, 656, 708, 748, 776, 816, 844, 872, 900, 913, 926, 954, 982, 1010, 1050, 1063, 1091, 1131, 1159, 1199, 1239, 1279, 1331, 1371, 1399, 1455, 1519, 1599, 1655, 1735, 1775, 1803, 1816, 1829]) (len := 192) (off := 1803) (t := 1843) (ax_d X (show cdA 350 40 = some (.tableswitch 1854 0 43 #[192, 265, 293, 321, 334, 374, 435, 484, 524, 564, 616, 656, 708, 748, 776, 816, 844, 872, 900, 913, 926, 954, 982, 1010, 1050, 1063, 1091, 1131, 1159, 1199, 1239, 1279, 1331, 1371, 1399, 1455, 1519, 1599, 1655, 1735, 1775, 1803, 1816, 1829], 192, 0, 0, 0) from rfl)) (by decide) (by decide) (by decide) (by decide) ?_
        exact lc_41 G GR SF GT GW X E S hL I jR jFEQ jRWJ jFTK jARJ jPTJ p1 p2 p3 p4 p5 p6 (by omega) (by omega) (by omega) hk
      ·
        rw [gs]
        refine w_tabIn X.1 (dflt := 1854) (lo := 0) (hi := 43) (offs := #[192, 265, 293, 321, 334, 374, 435, 484, 524, 564, 616, 656, 708, 748, 776, 816, 844, 872, 900, 913, 926, 954, 982, 1010, 1050, 1063, 1091, 1131, 1159, 1199, 1239, 1279, 1331, 1371, 1399, 1455, 1519, 1599, 1655, 1735, 1775, 1803, 1816, 1829]) (len := 192) (off := 1816) (t := 1856) (ax_d X (show cdA 350 40 = some (.tableswitch 1854 0 43 #[192, 265, 293, 321, 334, 374, 435, 484, 524, 564, 616, 656, 708, 748, 776, 816, 844, 872, 900, 913, 926, 954, 982, 1010, 1050, 1063, 1091, 1131, 1159, 1199, 1239, 1279, 1331, 1371, 1399, 1455, 1519, 1599, 1655, 1735, 1775, 1803, 1816, 1829], 192, 0, 0, 0) from rfl)) (by decide) (by decide) (by decide) (by decide) ?_
        exact lc_42 G GR SF GT GW X E S hL I jR jFEQ jRWJ jFTK jARJ jPTJ p1 p2 p3 p4 p5 p6 (by omega) (by omega) (by omega) hk
      ·
        rw [gs]
        refine w_tabIn X.1 (dflt := 1854) (lo := 0) (hi := 43) (offs := #[192, 265, 293, 321, 334, 374, 435, 484, 524, 564, 616, 656, 708, 748, 776, 816, 844, 872, 900, 913, 926, 954, 982, 1010, 1050, 1063, 1091, 1131, 1159, 1199, 1239, 1279, 1331, 1371, 1399, 1455, 1519, 1599, 1655, 1735, 1775, 1803, 1816, 1829]) (len := 192) (off := 1829) (t := 1869) (ax_d X (show cdA 350 40 = some (.tableswitch 1854 0 43 #[192, 265, 293, 321, 334, 374, 435, 484, 524, 564, 616, 656, 708, 748, 776, 816, 844, 872, 900, 913, 926, 954, 982, 1010, 1050, 1063, 1091, 1131, 1159, 1199, 1239, 1279, 1331, 1371, 1399, 1455, 1519, 1599, 1655, 1735, 1775, 1803, 1816, 1829], 192, 0, 0, 0) from rfl)) (by decide) (by decide) (by decide) (by decide) ?_
        exact lc_43 G GR SF GT GW X E S hL I jR jFEQ jRWJ jFTK jARJ jPTJ p1 p2 p3 p4 p5 p6 (by omega) (by omega) (by omega) hk
      ·
        exact w_tabOut X.1 (dflt := 1854) (lo := 0) (hi := 43) (offs := #[192, 265, 293, 321, 334, 374, 435, 484, 524, 564, 616, 656, 708, 748, 776, 816, 844, 872, 900, 913, 926, 954, 982, 1010, 1050, 1063, 1091, 1131, 1159, 1199, 1239, 1279, 1331, 1371, 1399, 1455, 1519, 1599, 1655, 1735, 1775, 1803, 1816, 1829]) (len := 192) (t := 1894) (ax_d X (show cdA 350 40 = some (.tableswitch 1854 0 43 #[192, 265, 293, 321, 334, 374, 435, 484, 524, 564, 616, 656, 708, 748, 776, 816, 844, 872, 900, 913, 926, 954, 982, 1010, 1050, 1063, 1091, 1131, 1159, 1199, 1239, 1279, 1331, 1371, 1399, 1455, 1519, 1599, 1655, 1735, 1775, 1803, 1816, 1829], 192, 0, 0, 0) from rfl)) (by rw [zi ⟨by omega, by omega⟩]; omega) (by decide) (w_widen (ce' := 518 + 29 * m + 29) (sl' := 23524 + 222 * m + 222) (by omega) (by omega) (hk A s I jR jFEQ jRWJ jFTK jARJ jPTJ p1 p2 p3 p4 p5 p6))
end M88
